/-! THE PURE LAYER: how a run of the pure machine is shown -/
def am_R (xs : Nat → Int32) (LL : Nat) (C : Nat → Option am_En) (K : Nat → List Value → am_H → Option Value → am_H → Prop) (pc : Nat) (L : am_L) (st : List Value) (h : am_H) (r : Option Value) (h' : am_H) : Prop := ∃ f, am_Run xs LL C K f pc L st h r h'
def am_go (xs : Nat → Int32) (LL : Nat) (C : Nat → Option am_En) : Nat → am_S → Option am_S
  | 0, S => some S
  | n + 1, S => match C S.1 with
    | some en => match am_kd en with
      | 0 => match am_step xs LL en S.1 S.2.1 S.2.2.1 S.2.2.2 with
        | some S' => am_go xs LL C n S'
        | none => none
      | _ => none
    | none => none
section PUR
variable {xs : Nat → Int32} {LL : Nat} {C : Nat → Option am_En} {K : Nat → List Value → am_H → Option Value → am_H → Prop} {pc : Nat} {L : am_L} {st : List Value} {h : am_H} {r : Option Value} {h' : am_H}
theorem am_R1 {en : am_En} {S : am_S} (hc : C pc = some en) (hk : am_kd en = 0) (hs : am_step xs LL en pc L st h = some S) (k : am_R xs LL C K S.1 S.2.1 S.2.2.1 S.2.2.2 r h') : am_R xs LL C K pc L st h r h' := by
  obtain ⟨f, hf⟩ := k
  refine ⟨f + 1, en, hc, ?_⟩
  rw [hk]
  exact ⟨S, hs, hf⟩
theorem am_goR (n : Nat) {S S' : am_S} (hg : am_go xs LL C n S = some S') (k : am_R xs LL C K S'.1 S'.2.1 S'.2.2.1 S'.2.2.2 r h') : am_R xs LL C K S.1 S.2.1 S.2.2.1 S.2.2.2 r h' := by
  induction n generalizing S with
  | zero => cases hg; exact k
  | succ n ih =>
    unfold am_go at hg
    split at hg
    · rename_i en hc
      split at hg
      · rename_i hk
        split at hg
        · rename_i S1 hs
          exact am_R1 hc hk hs (ih hg)
        · cases hg
      · cases hg
    · cases hg
theorem am_call {en : am_En} {y : Nat} {vs rest : List Value} {v : Option Value} {h1 : am_H} (hc : C pc = some en) (hk : am_kd en = 1) (ht : am_tgt en st h = some (y, vs, rest)) (hK : K y vs h v h1) (k : am_R xs LL C K (pc + 3) L (v.toList ++ rest) h1 r h') : am_R xs LL C K pc L st h r h' := by
  obtain ⟨f, hf⟩ := k
  refine ⟨f + 1, en, hc, ?_⟩
  rw [hk]
  exact ⟨y, vs, rest, v, h1, ht, hK, hf⟩
theorem am_retR {en : am_En} (hc : C pc = some en) (hk : am_kd en = 2) (hr : am_ret en st = some r) : am_R xs LL C K pc L st h r h := by
  refine ⟨1, en, hc, ?_⟩
  rw [hk]
  exact ⟨hr, rfl⟩
theorem am_brR {P : Prop} [Decidable P] {a b : Nat} (k1 : P → am_R xs LL C K a L st h r h') (k2 : ¬ P → am_R xs LL C K b L st h r h') : am_R xs LL C K (if P then a else b) L st h r h' := by
  by_cases hp : P
  · rw [if_pos hp]; exact k1 hp
  · rw [if_neg hp]; exact k2 hp
theorem am_in_of {j : Int32} {k n : Nat} (hj : j = nI k) (hk : k < n) (hn : n < 2 ^ 31) : ¬ (j < 0 ∨ n ≤ j.toNatClampNeg) ∧ j.toNatClampNeg = k := by
  subst hj
  have h1 : (nI k).toNatClampNeg = k := nI_clamp (by omega)
  refine ⟨?_, h1⟩
  rintro (h2 | h2)
  · exact absurd h2 (nI_pos (by omega))
  · omega
theorem am_ialdR {ps : List Nat} {tg : List (Nat × Nat)} {a : Nat} {v : Int} {id n k : Nat} {f : Nat → Int32} {j : Int32} (hc : C pc = some (.iaload, 1, a, v, tg, ps)) (hg : am_get h id = some (.inl (0, n, .inl f))) (hj : j = nI k) (hk : k < n) (hn : n < 2 ^ 31) (kk : am_R xs LL C K (pc + 1) L (.int (f k) :: st) h r h') : am_R xs LL C K pc L (.int j :: .ref id :: st) h r h' := by
  obtain ⟨h1, h2⟩ := am_in_of hj hk hn
  have hid : Nat.beq id 0 = false := by
    cases hb : Nat.beq id 0 with
    | false => rfl
    | true => have := Nat.eq_of_beq_eq_true hb; subst this; cases hg
  refine am_R1 (S := (pc + 1, L, .int (f k) :: st, h)) hc rfl ?_ kk
  dsimp only [am_step]
  rw [hid, cond_false, hg]
  show (if j < 0 ∨ n ≤ j.toNatClampNeg then (none : Option am_S) else some (pc + 1, L, .int (f j.toNatClampNeg) :: st, h)) = _
  rw [if_neg h1, h2]
theorem am_sldR {ps : List Nat} {tg : List (Nat × Nat)} {a : Nat} {v : Int} {k : Nat} {j : Int32} (hc : C pc = some (.iaload, 1, a, v, tg, ps)) (hj : j = nI k) (hk : k < LL) (hn : LL < 2 ^ 31) (kk : am_R xs LL C K (pc + 1) L (.int (xs k) :: st) h r h') : am_R xs LL C K pc L (.int j :: .ref 0 :: st) h r h' := by
  obtain ⟨h1, h2⟩ := am_in_of hj hk hn
  refine am_R1 (S := (pc + 1, L, .int (xs k) :: st, h)) hc rfl ?_ kk
  dsimp only [am_step]
  rw [show Nat.beq 0 0 = true from rfl, cond_true, if_neg h1, h2]
theorem am_baldR {ps : List Nat} {tg : List (Nat × Nat)} {a : Nat} {v : Int} {id n k : Nat} {f : Nat → Int32} {j : Int32} (hc : C pc = some (.baload, 1, a, v, tg, ps)) (hg : am_get h id = some (.inl (1, n, .inl f))) (hj : j = nI k) (hk : k < n) (hn : n < 2 ^ 31) (kk : am_R xs LL C K (pc + 1) L (.int (f k) :: st) h r h') : am_R xs LL C K pc L (.int j :: .ref id :: st) h r h' := by
  obtain ⟨h1, h2⟩ := am_in_of hj hk hn
  refine am_R1 (S := (pc + 1, L, .int (f k) :: st, h)) hc rfl ?_ kk
  dsimp only [am_step]
  rw [hg]
  show (if j < 0 ∨ n ≤ j.toNatClampNeg then (none : Option am_S) else some (pc + 1, L, .int (f j.toNatClampNeg) :: st, h)) = _
  rw [if_neg h1, h2]
theorem am_aaldR {ps : List Nat} {tg : List (Nat × Nat)} {a : Nat} {v : Int} {id n k t : Nat} {f : Nat → Option Nat} {j : Int32} (hc : C pc = some (.aaload, 1, a, v, tg, ps)) (hg : am_get h id = some (.inl (t, n, .inr f))) (ht : t = 2 ∨ t = 3) (hj : j = nI k) (hk : k < n) (hn : n < 2 ^ 31) (kk : am_R xs LL C K (pc + 1) L (va_rf (f k) :: st) h r h') : am_R xs LL C K pc L (.int j :: .ref id :: st) h r h' := by
  obtain ⟨h1, h2⟩ := am_in_of hj hk hn
  refine am_R1 (S := (pc + 1, L, va_rf (f k) :: st, h)) hc rfl ?_ kk
  dsimp only [am_step]
  rw [hg]
  rcases ht with rfl | rfl <;> (show (if j < 0 ∨ n ≤ j.toNatClampNeg then (none : Option am_S) else some (pc + 1, L, va_rf (f j.toNatClampNeg) :: st, h)) = _; rw [if_neg h1, h2])
theorem am_iastR {ps : List Nat} {tg : List (Nat × Nat)} {a : Nat} {v : Int} {id n k : Nat} {f : Nat → Int32} {j x : Int32} {h1 : am_H} (hc : C pc = some (.iastore, 1, a, v, tg, ps)) (hg : am_get h id = some (.inl (0, n, .inl f))) (hj : j = nI k) (hk : k < n) (hn : n < 2 ^ 31) (hp : am_put h id (.inl (0, n, .inl (upd f k x))) = h1) (kk : am_R xs LL C K (pc + 1) L st h1 r h') : am_R xs LL C K pc L (.int x :: .int j :: .ref id :: st) h r h' := by
  obtain ⟨h2, h3⟩ := am_in_of hj hk hn
  refine am_R1 (S := (pc + 1, L, st, h1)) hc rfl ?_ kk
  dsimp only [am_step]
  rw [hg]
  show (if j < 0 ∨ n ≤ j.toNatClampNeg then (none : Option am_S) else some (pc + 1, L, st, am_put h id (.inl (0, n, .inl (upd f j.toNatClampNeg x))))) = _
  rw [if_neg h2, h3, hp]
theorem am_bastR {ps : List Nat} {tg : List (Nat × Nat)} {a : Nat} {v : Int} {id n k : Nat} {f : Nat → Int32} {j x : Int32} {h1 : am_H} (hc : C pc = some (.bastore, 1, a, v, tg, ps)) (hg : am_get h id = some (.inl (1, n, .inl f))) (hj : j = nI k) (hk : k < n) (hn : n < 2 ^ 31) (hp : am_put h id (.inl (1, n, .inl (upd f k (vp_nar .boolean x)))) = h1) (kk : am_R xs LL C K (pc + 1) L st h1 r h') : am_R xs LL C K pc L (.int x :: .int j :: .ref id :: st) h r h' := by
  obtain ⟨h2, h3⟩ := am_in_of hj hk hn
  refine am_R1 (S := (pc + 1, L, st, h1)) hc rfl ?_ kk
  dsimp only [am_step]
  rw [hg]
  show (if j < 0 ∨ n ≤ j.toNatClampNeg then (none : Option am_S) else some (pc + 1, L, st, am_put h id (.inl (1, n, .inl (upd f j.toNatClampNeg (vp_nar .boolean x)))))) = _
  rw [if_neg h2, h3, hp]
/-- a method's run, from its body's -/
theorem am_XR {d y : Nat} {vs : List Value} (hy : Nat.blt y am_NP = true) (hn : Nat.ble (am_ex vs).length (am_nl y) = true) (hC : am_cd y = C) (hE : am_ent (am_nl y) vs = L) (k : am_R xs LL C (am_X xs LL d) 0 L [] h r h') : am_X xs LL (d + 1) y vs h r h' := by
  subst hC
  subst hE
  exact ⟨hy, hn, k⟩
end PUR
