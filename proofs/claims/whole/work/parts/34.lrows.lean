/-! rows for the lines -/
def am_it {α : Type} (f : Nat → α → α) (a : α) : Nat → α
  | 0 => a
  | n + 1 => f n (am_it f a n)
def am_hb (m : Int32) (p : Nat) : Bool := decide ((m >>> (nI p &&& 31)) &&& 1 = 1)
def am_pl (N : Nat) (p : Int32) : Prop := p = -1 ∨ ∃ k, k < N ∧ p = nI k
def am_add (A : Nat → Int32) (p v : Int32) : Nat → Int32 := if p = -1 then A else upd A p.toNatClampNeg (A p.toNatClampNeg ||| v)
def am_hat (W : Nat → Int32) (p : Int32) : Int32 := if p = -1 then 0 else W p.toNatClampNeg
theorem am_add_no {A : Nat → Int32} {v : Int32} : am_add A (-1) v = A := if_pos rfl
theorem am_add_nI {A : Nat → Int32} {v : Int32} {k : Nat} (h : k < 2 ^ 31) : am_add A (nI k) v = upd A k (A k ||| v) := by
  unfold am_add
  rw [if_neg (nI_m1 h), nI_clamp h]
theorem am_hat_no {W : Nat → Int32} : am_hat W (-1) = 0 := if_pos rfl
theorem am_hat_nI {W : Nat → Int32} {k : Nat} (h : k < 2 ^ 31) : am_hat W (nI k) = W k := by
  unfold am_hat
  rw [if_neg (nI_m1 h), nI_clamp h]
theorem am_or0 (x : Int32) : x ||| 0 = x := Int32.or_zero
theorem am_upd_id (A : Nat → Int32) (k : Nat) : upd A k (A k) = A := by
  funext j
  unfold upd
  by_cases h : j = k
  · rw [if_pos h, h]
  · rw [if_neg h]
theorem am_pl_mono {a b : Nat} {p : Int32} (h : am_pl a p) (hab : a ≤ b) : am_pl b p := h.imp id (fun ⟨k, h1, h2⟩ => ⟨k, by omega, h2⟩)
theorem am_pl_nI {a b : Nat} (h : a < b) : am_pl b (nI a) := Or.inr ⟨a, h, rfl⟩
theorem am_wiN {a b v : Nat} (h1 : a ≤ v) (h2 : v ≤ b) (h3 : b < 2 ^ 31) : decide (nI a ≤ nI v ∧ nI v ≤ nI b) = true := decide_eq_true ⟨nI_le h1 (by omega), nI_le h2 h3⟩
section LR
variable {xs : Nat → Int32} {LL : Nat} {σ μ : Nat → Nat → Int32} {sr : Nat → Nat} {ln : Nat → Nat → Int32} {Lc : Nat} {C : Nat → Option am_En} {K : Nat → List Value → am_H → Option Value → am_H → Prop} {pc : Nat} {L : am_L} {st : List Value} {r : Option Value} {h' : am_H}
theorem am_get_line {i : Nat} (hi : i < Lc) : am_get (hG σ sr ln Lc μ) (75 + i) = some (hLn sr ln i) := by
  unfold am_get
  rw [show Nat.blt (75 + i) 14 = false from by rw [← Bool.not_eq_true, Nat.blt_eq]; omega, cond_false]
  show (hXM σ Lc μ ++ _)[75 + i - 14]? = _
  rw [List.getElem?_append_right (by show 61 ≤ 75 + i - 14; omega)]
  rw [show 75 + i - 14 - (hXM σ Lc μ).length = i from by show 75 + i - 14 - 61 = i; omega]
  rw [List.getElem?_map, List.getElem?_range hi]
  rfl
theorem am_hLn_ne {i j : Nat} {g : Nat → Int32} (h : ¬ j = i) : hLn sr (am_up ln i g) j = hLn sr ln j := by
  have hb : Nat.beq j i = false := by
    cases e : Nat.beq j i with
    | false => rfl
    | true => exact absurd (Nat.eq_of_beq_eq_true e) h
  unfold hLn am_up
  rw [hb]
  rfl
theorem am_put_line {i : Nat} {g : Nat → Int32} (hi : i < Lc) : am_put (hG σ sr ln Lc μ) (75 + i) (hLn sr (am_up ln i g) i) = hG σ sr (am_up ln i g) Lc μ := by
  unfold am_put
  show (hXM σ Lc μ ++ _).set (75 + i - 14) _ = hXM σ Lc μ ++ _
  rw [List.set_append_right _ _ (by show 61 ≤ 75 + i - 14; omega)]
  rw [show 75 + i - 14 - (hXM σ Lc μ).length = i from by show 75 + i - 14 - 61 = i; omega]
  congr 1
  apply List.ext_getElem
  · simp only [List.length_set, List.length_map, List.length_range]
  · intro j h1 h2
    rw [List.getElem_set]
    by_cases hj : i = j
    · subst hj
      rw [if_pos rfl]
      simp only [List.getElem_map, List.getElem_range]
    · rw [if_neg hj]
      simp only [List.getElem_map, List.getElem_range]
      exact (am_hLn_ne (fun q => hj q.symm)).symm
theorem am_ialdV {h : am_H} {ps : List Nat} {tg : List (Nat × Nat)} {a : Nat} {v : Int} {id n k : Nat} {f : Nat → Int32} {j w : Int32} (hc : C pc = some (.iaload, 1, a, v, tg, ps)) (hg : am_get h id = some (.inl (0, n, .inl f))) (hj : j = nI k) (hk : k < n) (hn : n < 2 ^ 31) (hw : f k = w) (kk : am_R xs LL C K (pc + 1) L (.int w :: st) h r h') : am_R xs LL C K pc L (.int j :: .ref id :: st) h r h' := am_ialdR hc hg hj hk hn (hw ▸ kk)
theorem am_baldV {h : am_H} {ps : List Nat} {tg : List (Nat × Nat)} {a : Nat} {v : Int} {id n k : Nat} {f : Nat → Int32} {j w : Int32} (hc : C pc = some (.baload, 1, a, v, tg, ps)) (hg : am_get h id = some (.inl (1, n, .inl f))) (hj : j = nI k) (hk : k < n) (hn : n < 2 ^ 31) (hw : f k = w) (kk : am_R xs LL C K (pc + 1) L (.int w :: st) h r h') : am_R xs LL C K pc L (.int j :: .ref id :: st) h r h' := am_baldR hc hg hj hk hn (hw ▸ kk)
theorem am_lk {tg : List (Nat × Nat)} {f : Nat → Nat} (h : ∀ s, s < 6 → am_look tg (am_lc s) = some (f s)) {s : Nat} (hs : s < 6) : am_look tg (am_lc s) = some (f s) := h s hs
theorem am_lkx {tg : List (Nat × Nat)} (h : ∀ s, s < 6 → (am_look tg (am_lc s)).isSome = true) {s : Nat} (hs : s < 6) : ∃ y, am_look tg (am_lc s) = some y := Option.isSome_iff_exists.mp (h s hs)
theorem am_lgetR {i k : Nat} {idx : Nat} {ln0 : Nat} {v : Int} {tg : List (Nat × Nat)} {ps : List Nat} (hc : C pc = some (.getfield idx, ln0, k, v, tg, ps)) (hi : i < Lc) (hk : k < 7) (hl : ∃ y, am_look tg (am_lc (sr i)) = some y) (kk : am_R xs LL C K (pc + 3) L (.int (ln i k) :: st) (hG σ sr ln Lc μ) r h') : am_R xs LL C K pc L (.ref (75 + i) :: st) (hG σ sr ln Lc μ) r h' := by
  refine am_R1 (S := (pc + 3, L, .int (ln i k) :: st, hG σ sr ln Lc μ)) hc rfl ?_ kk
  obtain ⟨y, hy⟩ := hl
  dsimp only [am_step]
  rw [am_get_line hi]
  dsimp only [hLn]
  rw [hy]
  match k, hk with
  | 0, _ => rfl
  | 1, _ => rfl
  | 2, _ => rfl
  | 3, _ => rfl
  | 4, _ => rfl
  | 5, _ => rfl
  | 6, _ => rfl
/-- the field of a CALL (z), of a MAKE (object) -/
theorem am_lget7R {i : Nat} {idx : Nat} {ln0 : Nat} {v : Int} {tg : List (Nat × Nat)} {ps : List Nat} (hc : C pc = some (.getfield idx, ln0, 7, v, tg, ps)) (hi : i < Lc) (hs : Nat.blt 3 (sr i) = true) (hl : ∃ y, am_look tg (am_lc (sr i)) = some y) (kk : am_R xs LL C K (pc + 3) L (.int (ln i 7) :: st) (hG σ sr ln Lc μ) r h') : am_R xs LL C K pc L (.ref (75 + i) :: st) (hG σ sr ln Lc μ) r h' := by
  refine am_R1 (S := (pc + 3, L, .int (ln i 7) :: st, hG σ sr ln Lc μ)) hc rfl ?_ kk
  obtain ⟨y, hy⟩ := hl
  dsimp only [am_step]
  rw [am_get_line hi]
  dsimp only [hLn]
  rw [hy, hs]
  rfl
theorem am_lputR {i k : Nat} {x : Int32} {idx : Nat} {ln0 : Nat} {v : Int} {tg : List (Nat × Nat)} {ps : List Nat} (hc : C pc = some (.putfield idx, ln0, k, v, tg, ps)) (hi : i < Lc) (hk : k < 7) (hl : ∃ y, am_look tg (am_lc (sr i)) = some y) (hf : am_fit v (.int x) = true) (kk : am_R xs LL C K (pc + 3) L st (hG σ sr (am_up ln i (upd (ln i) k x)) Lc μ) r h') : am_R xs LL C K pc L (.int x :: .ref (75 + i) :: st) (hG σ sr ln Lc μ) r h' := by
  refine am_R1 (S := (pc + 3, L, st, hG σ sr (am_up ln i (upd (ln i) k x)) Lc μ)) hc rfl ?_ kk
  obtain ⟨y, hy⟩ := hl
  dsimp only [am_step]
  rw [am_get_line hi]
  dsimp only [hLn]
  rw [hy, hf, ← am_put_line hi]
  have hb : Nat.beq i i = true := Nat.beq_refl i
  match k, hk with
  | 0, _ => unfold hLn am_up upd; rw [hb]; rfl
  | 1, _ => unfold hLn am_up upd; rw [hb]; rfl
  | 2, _ => unfold hLn am_up upd; rw [hb]; rfl
  | 3, _ => unfold hLn am_up upd; rw [hb]; rfl
  | 4, _ => unfold hLn am_up upd; rw [hb]; rfl
  | 5, _ => unfold hLn am_up upd; rw [hb]; rfl
  | 6, _ => unfold hLn am_up upd; rw [hb]; rfl
theorem am_laldR {k : Nat} {j : Int32} {a : Nat} {v : Int} {tg : List (Nat × Nat)} {ps : List Nat} (hc : C pc = some (.aaload, 1, a, v, tg, ps)) (hj : j = nI k) (hk : k < Lc) (hk40 : k < 40) (kk : am_R xs LL C K (pc + 1) L (.ref (75 + k) :: st) (hG σ sr ln Lc μ) r h') : am_R xs LL C K pc L (.int j :: .ref 22 :: st) (hG σ sr ln Lc μ) r h' := by
  refine am_aaldR (n := 40) (t := 2) (f := fun j => if j < Lc then some (75 + j) else none) hc rfl (Or.inl rfl) hj hk40 (by decide) ?_
  show am_R xs LL C K (pc + 1) L (va_rf (if k < Lc then some (75 + k) else none) :: st) (hG σ sr ln Lc μ) r h'
  rw [if_pos hk]
  exact kk
theorem am_laldN {k : Nat} {j : Int32} {a : Nat} {v : Int} {tg : List (Nat × Nat)} {ps : List Nat} (hc : C pc = some (.aaload, 1, a, v, tg, ps)) (hj : j = nI k) (hk : ¬ k < Lc) (hk40 : k < 40) (kk : am_R xs LL C K (pc + 1) L (.null :: st) (hG σ sr ln Lc μ) r h') : am_R xs LL C K pc L (.int j :: .ref 22 :: st) (hG σ sr ln Lc μ) r h' := by
  refine am_aaldR (n := 40) (t := 2) (f := fun j => if j < Lc then some (75 + j) else none) hc rfl (Or.inl rfl) hj hk40 (by decide) ?_
  show am_R xs LL C K (pc + 1) L (va_rf (if k < Lc then some (75 + k) else none) :: st) (hG σ sr ln Lc μ) r h'
  rw [if_neg hk]
  exact kk
theorem am_lnnR {i : Nat} {o : Int} {ln0 a : Nat} {v : Int} {tg : List (Nat × Nat)} {ps : List Nat} (hc : C pc = some (.ifnull o, ln0, a, v, tg, ps)) (h : am_H) (kk : am_R xs LL C K (pc + 3) L st h r h') : am_R xs LL C K pc L (.ref (75 + i) :: st) h r h' :=
  am_R1 (S := (pc + 3, L, st, h)) hc rfl rfl kk
theorem am_lnn2R {i : Nat} {o : Int} {ln0 a : Nat} {v : Int} {tg : List (Nat × Nat)} {ps : List Nat} (hc : C pc = some (.ifnonnull o, ln0, a, v, tg, ps)) (h : am_H) (kk : am_R xs LL C K a L st h r h') : am_R xs LL C K pc L (.ref (75 + i) :: st) h r h' :=
  am_R1 (S := (a, L, st, h)) hc rfl rfl kk
theorem am_linsR {i : Nat} {idx : Nat} {ln0 a : Nat} {v : Int} {tg : List (Nat × Nat)} {ps : List Nat} {b : Bool} (hc : C pc = some (.instanceof idx, ln0, a, v, tg, ps)) (hi : i < Lc) (hl : am_look tg (am_lc (sr i)) = some (bif b then 1 else 0)) (kk : am_R xs LL C K (pc + 3) L (.int (am_b2 b) :: st) (hG σ sr ln Lc μ) r h') : am_R xs LL C K pc L (.ref (75 + i) :: st) (hG σ sr ln Lc μ) r h' := by
  refine am_R1 (S := (pc + 3, L, .int (am_b2 b) :: st, hG σ sr ln Lc μ)) hc rfl ?_ kk
  dsimp only [am_step]
  rw [am_get_line hi]
  dsimp only [hLn]
  rw [hl]
  cases b <;> rfl
theorem am_tgtL {i : Nat} {idx : Nat} {ln0 a y : Nat} {v : Int} {tg : List (Nat × Nat)} {ps : List Nat} {rest vs : List Value} (hst : st.drop a = .ref (75 + i) :: rest) (hcat : Nat.ble (am_cats rest) 8 = true) (hi : i < Lc) (hlook : am_look tg (am_lc (sr i)) = some y) (hv : decide (v = 7) = false) (hvs : .ref (75 + i) :: (st.take a).reverse = vs) : am_tgt (.invokevirtual idx, ln0, a, v, tg, ps) st (hG σ sr ln Lc μ) = some (y, vs, rest) := by
  subst hvs
  dsimp only [am_tgt]
  rw [hst]
  dsimp only
  rw [hcat, cond_true, am_get_line hi]
  dsimp only [hLn]
  rw [hlook]
  dsimp only
  rw [hv]
  rfl
theorem am_tgtLs {i : Nat} {idx : Nat} {ln0 a y cl : Nat} {v : Int} {tg : List (Nat × Nat)} {ps : List Nat} {rest vs : List Value} (htg : tg = [(cl, y)]) (hst : st.drop a = .ref (75 + i) :: rest) (hcat : Nat.ble (am_cats rest) 8 = true) (hi : i < Lc) (hvs : .ref (75 + i) :: (st.take a).reverse = vs) : am_tgt (.invokespecial idx, ln0, a, v, tg, ps) st (hG σ sr ln Lc μ) = some (y, vs, rest) := by
  subst hvs
  subst htg
  dsimp only [am_tgt]
  rw [hst]
  dsimp only
  rw [hcat, cond_true, am_get_line hi]
  rfl
end LR
