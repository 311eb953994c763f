/-! the class: sets, the small methods -/
def am_kf (σ : Nat → Nat → Int32) (b : Bool) (p : Nat) : Int32 := bif b then nI p else σ 4 p
/-- an array filled -/
theorem am_put_get {h : am_H} {id : Nat} {e e2 : am_E} (hg : am_get h id = some e) : am_get (am_put h id e2) id = some e2 := by
  unfold am_get am_put at *
  cases hb : Nat.blt id 14 with
  | true => rw [hb] at hg; cases hg
  | false =>
    rw [hb, cond_false] at hg
    rw [cond_false]
    have hl : id - 14 < h.length := by
      rcases Nat.lt_or_ge (id - 14) h.length with q | q
      · exact q
      · rw [List.getElem?_eq_none q] at hg; cases hg
    rw [List.getElem?_set_self hl]
theorem am_put_put {h : am_H} {id : Nat} {e e2 : am_E} : am_put (am_put h id e) id e2 = am_put h id e2 := List.set_set ..
theorem am_put_id {h : am_H} {id : Nat} {e : am_E} (hg : am_get h id = some e) : am_put h id e = h := by
  unfold am_get am_put at *
  cases hb : Nat.blt id 14 with
  | true => rw [hb] at hg; cases hg
  | false =>
    rw [hb, cond_false] at hg
    obtain ⟨h1, h2⟩ := List.getElem?_eq_some_iff.mp hg
    rw [← h2, List.set_getElem_self]
theorem sp_fill {xs : Nat → Int32} {LL : Nat} (d : Nat) (h : am_H) (id n : Nat) (f : Nat → Int32) (v : Int32) {h1 : am_H} (hg : am_get h id = some (.inl (0, n, .inl f))) (hn : n < 2 ^ 31) (hp : am_put h id (.inl (0, n, .inl (am_fill (fun _ => v) f n 0))) = h1) : am_X xs LL (d + 1) 209 [.ref id, .int v] h none h1 := by
  subst hp
  have hid : Nat.beq id 0 = false := by
    cases hb : Nat.beq id 0 with
    | false => rfl
    | true => have := Nat.eq_of_beq_eq_true hb; subst this; cases hg
  refine am_XR (d := d + 0) (C := cd_J7_fill_53178) (L := [some (.ref id), some (.int v), none, none]) rfl rfl rfl rfl ?_
  have lp : ∀ (r i : Nat) (g : Nat → Int32) (hh : am_H), i + r = n → am_get hh id = some (.inl (0, n, .inl g)) → am_R xs LL cd_J7_fill_53178 (am_X xs LL (d + 0)) 5 [some (.ref id), some (.int v), some (.int (nI i)), some (.int (nI n))] [] hh none (am_put hh id (.inl (0, n, .inl (am_fill (fun _ => v) g n i)))) := by
    intro r
    induction r with
    | zero =>
      intro i g hh hi hgg
      have hi2 : i = n := by omega
      refine am_g 3 (if nI n ≤ nI i then 20 else 10) [some (.ref id), some (.int v), some (.int (nI i)), some (.int (nI n))] [] hh rfl ?_
      rw [if_pos (nI_le (by omega) (by omega))]
      exact am_ret2 rfl rfl rfl rfl (by rw [hi2, am_fill_end, am_put_id hgg])
    | succ r ih =>
      intro i g hh hi hgg
      refine am_g 3 (if nI n ≤ nI i then 20 else 10) [some (.ref id), some (.int v), some (.int (nI i)), some (.int (nI n))] [] hh rfl ?_
      rw [if_neg (nI_ge (by omega) (by omega))]
      refine am_g 3 13 [some (.ref id), some (.int v), some (.int (nI i)), some (.int (nI n))] [.int v, .int (nI i), .ref id] hh rfl ?_
      refine am_iastR (n := n) (f := g) (k := i) rfl hgg rfl (by omega) hn rfl ?_
      refine am_g 2 5 [some (.ref id), some (.int v), some (.int (nI i + 1)), some (.int (nI n))] [] _ rfl ?_
      rw [nI_up]
      have e := ih (i + 1) (upd g i v) _ (by omega) (am_put_get (e2 := .inl (0, n, .inl (upd g i v))) hgg)
      rw [am_put_put, am_fill_up (g := fun _ => v) (by omega)] at e
      exact e
  refine am_g 2 2 [some (.ref id), some (.int v), some (.int 0), none] [] h rfl ?_
  refine am_g 1 3 [some (.ref id), some (.int v), some (.int 0), none] [.ref id] h rfl ?_
  refine am_R1 (S := (4, [some (.ref id), some (.int v), some (.int 0), none], [.int (nI n)], h)) rfl rfl ?_ ?_
  · dsimp only [am_step]
    rw [hid, cond_false, hg]
    rfl
  · refine am_g 1 5 [some (.ref id), some (.int v), some (.int 0), some (.int (nI n))] [] h rfl ?_
    exact lp n 0 f h (by omega) hg
section XS
variable {xs : Nat → Int32} {LL : Nat} {σ μ : Nat → Nat → Int32} {sr : Nat → Nat} {ln : Nat → Nat → Int32} {Lc : Nat}
theorem sp_X11_hasBit_y (d : Nat) (m : Int32) (p : Nat) (h : am_H) (hb : am_hb m p = true) : am_X xs LL (d + 1) 126 [.int m, .int (nI p)] h (some (.int 1)) h := by
  refine am_XR (d := d + 0) (C := cd_X11_hasBit) (L := [some (.int m), some (.int (nI p))]) rfl rfl rfl rfl ?_
  refine am_g 7 (if ((m >>> ((nI p) &&& 31)) &&& 1) = 1 then 9 else 13) [some (.int m), some (.int (nI p))] [] h rfl ?_
  rw [if_pos (show ((m >>> ((nI p) &&& 31)) &&& 1) = 1 from (of_decide_eq_true hb))]
  refine am_g 2 14 [some (.int m), some (.int (nI p))] [.int 1] h rfl ?_
  exact am_ret2 rfl rfl rfl rfl rfl
theorem sp_X11_hasBit_n (d : Nat) (m : Int32) (p : Nat) (h : am_H) (hb : am_hb m p = false) : am_X xs LL (d + 1) 126 [.int m, .int (nI p)] h (some (.int 0)) h := by
  refine am_XR (d := d + 0) (C := cd_X11_hasBit) (L := [some (.int m), some (.int (nI p))]) rfl rfl rfl rfl ?_
  refine am_g 7 (if ((m >>> ((nI p) &&& 31)) &&& 1) = 1 then 9 else 13) [some (.int m), some (.int (nI p))] [] h rfl ?_
  rw [if_neg (show ¬ ((m >>> ((nI p) &&& 31)) &&& 1) = 1 from (of_decide_eq_false hb))]
  refine am_g 1 14 [some (.int m), some (.int (nI p))] [.int 0] h rfl ?_
  exact am_ret2 rfl rfl rfl rfl rfl
theorem sp_X11_hasBit (d : Nat) (m : Int32) (p : Nat) (h : am_H) {b : Bool} (eb : am_hb m p = b) : am_X xs LL (d + 1) 126 [.int m, .int (nI p)] h (some (.int (am_b2 b))) h := by
  cases b with
  | true => exact sp_X11_hasBit_y d m p h eb
  | false => exact sp_X11_hasBit_n d m p h eb
theorem sp_X11_fieldPlace (d : Nat) (o f : Nat) (ho : o < 16) (hf : f < 3) (h : am_H) : am_X xs LL (d + 2) 127 [.int (nI o), .int (nI f)] h (some (.int (nI (20 + 3 * o + f)))) h := by
  refine am_XR (d := d + 1) (C := cd_X11_fieldPlace) (L := [some (.int (nI o)), some (.int (nI f))]) rfl rfl rfl rfl ?_
  refine am_g 3 4 [some (.int (nI o)), some (.int (nI f))] [.int 15, .int 0, .int (nI o)] h rfl ?_
  refine am_call (y := 122) (vs := [.int (nI o), .int 0, .int 15]) (rest := []) (v := (some (.int 1))) (h1 := h) rfl rfl rfl (sp_X11_isWithin_b d _ _ _ _ (am_wiN (a := 0) (b := 15) (v := o) (by omega) (by omega) (by omega))) ?_
  refine am_g 4 13 [some (.int (nI o)), some (.int (nI f))] [.int 2, .int 0, .int (nI f)] h rfl ?_
  refine am_call (y := 122) (vs := [.int (nI f), .int 0, .int 2]) (rest := []) (v := (some (.int 1))) (h1 := h) rfl rfl rfl (sp_X11_isWithin_b d _ _ _ _ (am_wiN (a := 0) (b := 2) (v := f) (by omega) (by omega) (by omega))) ?_
  refine am_g 8 29 [some (.int (nI o)), some (.int (nI f))] [.int ((20 + ((nI o) * 3)) + (nI f))] h rfl ?_
  exact am_ret2 rfl rfl rfl (by rw [show ((20 + ((nI o) * 3)) + (nI f)) = nI (20 + 3 * o + f) from by simp only [show (20 : Int32) = nI 20 from rfl, show (3 : Int32) = nI 3 from rfl, nI_mul2, nI_add]; exact congrArg nI (by omega)]) rfl
theorem sp_X7_heldAt_0_k (d : Nat) (k : Nat) (hk : k < 68) : am_X xs LL (d + 1) 56 [.ref 23, .int (nI k)] (hG σ sr ln Lc μ) (some (.int (σ 12 k))) (hG σ sr ln Lc μ) := by
  refine am_XR (d := d + 0) (C := cd_X7_heldAt) (L := [some (.ref 23), some (.int (nI k))]) rfl rfl rfl rfl ?_
  refine am_g 2 (if (nI k) < 0 then 22 else 4) [some (.ref 23), some (.int (nI k))] [] (hG σ sr ln Lc μ) rfl ?_
  rw [if_neg (show ¬ (nI k) < 0 from (am_dnlt (a := k) (b := 0) (rfl) (rfl) (by omega) (by omega) (by omega)))]
  refine am_g 5 (if 68 ≤ (nI k) then 22 else 13) [some (.ref 23), some (.int (nI k))] [] (hG σ sr ln Lc μ) rfl ?_
  rw [if_neg (show ¬ 68 ≤ (nI k) from (am_dnle (a := 68) (b := k) (rfl) (rfl) (by omega) (by omega) (by omega)))]
  refine am_g 3 18 [some (.ref 23), some (.int (nI k))] [.int (nI k), .ref 24] (hG σ sr ln Lc μ) rfl ?_
  refine am_ialdR (n := 68) (f := (σ 12)) (k := k) rfl rfl (rfl) (by omega) (by decide) ?_
  refine am_g 1 23 [some (.ref 23), some (.int (nI k))] [.int (σ 12 k)] (hG σ sr ln Lc μ) rfl ?_
  exact am_ret2 rfl rfl rfl rfl rfl
theorem sp_X7_heldAt_0_n (d : Nat)  : am_X xs LL (d + 1) 56 [.ref 23, .int (-1)] (hG σ sr ln Lc μ) (some (.int 0)) (hG σ sr ln Lc μ) := by
  refine am_XR (d := d + 0) (C := cd_X7_heldAt) (L := [some (.ref 23), some (.int (-1))]) rfl rfl rfl rfl ?_
  refine am_g 3 23 [some (.ref 23), some (.int (-1))] [.int 0] (hG σ sr ln Lc μ) rfl ?_
  exact am_ret2 rfl rfl rfl rfl rfl
theorem sp_X7_heldAt_0 (d : Nat) (p : Int32) (hp : am_pl 68 p) : am_X xs LL (d + 1) 56 [.ref 23, .int p] (hG σ sr ln Lc μ) (some (.int (am_hat (σ 12) p))) (hG σ sr ln Lc μ) := by
  rcases hp with rfl | ⟨k, hk, rfl⟩
  · rw [am_hat_no]; exact sp_X7_heldAt_0_n d
  · rw [am_hat_nI (by omega)]; exact sp_X7_heldAt_0_k d k hk
theorem sp_X7_add_0_k (d : Nat) (k : Nat) (hk : k < 68) (v : Int32) : am_X xs LL (d + 1) 57 [.ref 23, .int (nI k), .int v] (hG σ sr ln Lc μ) none (hG (am_up σ 13 (upd (σ 13) k (σ 13 k ||| v))) sr ln Lc μ) := by
  refine am_XR (d := d + 0) (C := cd_X7_add) (L := [some (.ref 23), some (.int (nI k)), some (.int v)]) rfl rfl rfl rfl ?_
  refine am_g 2 (if (nI k) < 0 then 23 else 4) [some (.ref 23), some (.int (nI k)), some (.int v)] [] (hG σ sr ln Lc μ) rfl ?_
  rw [if_neg (show ¬ (nI k) < 0 from (am_dnlt (a := k) (b := 0) (rfl) (rfl) (by omega) (by omega) (by omega)))]
  refine am_g 5 (if 68 ≤ (nI k) then 23 else 13) [some (.ref 23), some (.int (nI k)), some (.int v)] [] (hG σ sr ln Lc μ) rfl ?_
  rw [if_neg (show ¬ 68 ≤ (nI k) from (am_dnle (a := 68) (b := k) (rfl) (rfl) (by omega) (by omega) (by omega)))]
  refine am_g 4 19 [some (.ref 23), some (.int (nI k)), some (.int v)] [.int (nI k), .ref 25, .int (nI k), .ref 25] (hG σ sr ln Lc μ) rfl ?_
  refine am_ialdR (n := 68) (f := (σ 13)) (k := k) rfl rfl (rfl) (by omega) (by decide) ?_
  refine am_g 2 22 [some (.ref 23), some (.int (nI k)), some (.int v)] [.int ((σ 13 k) ||| v), .int (nI k), .ref 25] (hG σ sr ln Lc μ) rfl ?_
  refine am_iastR (n := 68) (f := (σ 13)) (k := k) (h1 := (hG (am_up σ 13 (upd (σ 13) k ((σ 13 k) ||| v))) sr ln Lc μ)) rfl rfl (rfl) (by omega) (by decide) rfl ?_
  exact am_ret2 rfl rfl rfl rfl rfl
theorem sp_X7_add_0_n (d : Nat) (v : Int32) : am_X xs LL (d + 1) 57 [.ref 23, .int (-1), .int v] (hG σ sr ln Lc μ) none (hG σ sr ln Lc μ) := by
  refine am_XR (d := d + 0) (C := cd_X7_add) (L := [some (.ref 23), some (.int (-1)), some (.int v)]) rfl rfl rfl rfl ?_
  refine am_g 2 23 [some (.ref 23), some (.int (-1)), some (.int v)] [] (hG σ sr ln Lc μ) rfl ?_
  exact am_ret2 rfl rfl rfl rfl rfl
theorem sp_X7_add_0 (d : Nat) (p v : Int32) (hp : am_pl 68 p) : am_X xs LL (d + 1) 57 [.ref 23, .int p, .int v] (hG σ sr ln Lc μ) none (hG (am_up σ 13 (am_add (σ 13) p v)) sr ln Lc μ) := by
  rcases hp with rfl | ⟨k, hk, rfl⟩
  · rw [am_add_no, am_up_id]; exact sp_X7_add_0_n d v
  · rw [am_add_nI (by omega)]; exact sp_X7_add_0_k d k hk v
theorem sp_X7_kindOfPoint_0 (d : Nat) (p : Nat) (hp : p < 16) : am_X xs LL (d + 2) 59 [.ref 23, .int (nI p)] (hG σ sr ln Lc μ) (some (.int (am_kf σ false p))) (hG σ sr ln Lc μ) := by
  refine am_XR (d := d + 1) (C := cd_X7_kindOfPoint) (L := [some (.ref 23), some (.int (nI p))]) rfl rfl rfl rfl ?_
  refine am_g 6 16 [some (.ref 23), some (.int (nI p))] [.int (nI p), .ref 15] (hG σ sr ln Lc μ) rfl ?_
  refine am_call (y := 32) (vs := [.ref 15, .int (nI p)]) (rest := []) (v := (some (.int (σ 4 p)))) (h1 := (hG σ sr ln Lc μ)) rfl rfl rfl (sp_X3_kindOfObject_ok (σ := σ) (μ := μ) d p (by omega)) ?_
  exact am_ret2 rfl rfl rfl rfl rfl
theorem sp_X7_aimOfPoint_0 (d : Nat) (hab : am_wab (σ 1)) (p a : Nat) (hp : p < 16) (ha : a < 3) (hk : am_pl 8 (am_kf σ false p)) : am_X xs LL (d + 3) 60 [.ref 23, .int (nI p), .int (nI a)] (hG σ sr ln Lc μ) (some (.int (am_aimF (σ 1) (σ 2) a 9 (am_kf σ false p)))) (hG σ sr ln Lc μ) := by
  refine am_XR (d := d + 2) (C := cd_X7_aimOfPoint) (L := [some (.ref 23), some (.int (nI p)), some (.int (nI a))]) rfl rfl rfl rfl ?_
  refine am_g 4 6 [some (.ref 23), some (.int (nI p)), some (.int (nI a))] [.int (nI p), .ref 23, .ref 15] (hG σ sr ln Lc μ) rfl ?_
  refine am_call (y := 59) (vs := [.ref 23, .int (nI p)]) (rest := [.ref 15]) (v := (some (.int (am_kf σ false p)))) (h1 := (hG σ sr ln Lc μ)) rfl rfl rfl (sp_X7_kindOfPoint_0 (σ := σ) (μ := μ) d p (by omega)) ?_
  refine am_g 1 10 [some (.ref 23), some (.int (nI p)), some (.int (nI a))] [.int (nI a), .int (am_kf σ false p), .ref 15] (hG σ sr ln Lc μ) rfl ?_
  refine am_call (y := 25) (vs := [.ref 15, .int (am_kf σ false p), .int (nI a)]) (rest := []) (v := (some (.int (am_aimF (σ 1) (σ 2) a 9 (am_kf σ false p))))) (h1 := (hG σ sr ln Lc μ)) rfl rfl rfl (sp_X3_aimOf (σ := σ) (μ := μ) (d + 1) hab _ _ (hk) (ha)) ?_
  exact am_ret2 rfl rfl rfl rfl rfl
theorem sp_X7_partUnder_0 (d : Nat) (hab : am_wab (σ 1)) (m k : Int32) (hk : ∀ p, p < 16 → am_hb m p = true → am_pl 8 (am_kf σ false p)) : am_X xs LL (d + 3) 61 [.ref 23, .int m, .int k] (hG σ sr ln Lc μ) (some (.int (am_orF (am_okF (σ 1) (am_kf σ false) m k) 16))) (hG σ sr ln Lc μ) := by
  refine am_XR (d := d + 2) (C := cd_X7_partUnder) (L := [some (.ref 23), some (.int m), some (.int k), none, none]) rfl rfl rfl rfl ?_
  refine am_g 4 5 [some (.ref 23), some (.int m), some (.int k), some (.int 0), some (.int 0)] [] (hG σ sr ln Lc μ) rfl ?_
  have lp : ∀ (r i : Nat), i + r = 16 → am_R xs LL cd_X7_partUnder (am_X xs LL (d + 2)) 5 [some (.ref 23), some (.int m), some (.int k), some (.int (am_orF (am_okF (σ 1) (am_kf σ false) m k) i)), some (.int (nI i))] [] (hG σ sr ln Lc μ) (some (.int (am_orF (am_okF (σ 1) (am_kf σ false) m k) 16))) (hG σ sr ln Lc μ) := by
    intro r
    induction r with
    | zero =>
      intro i  hi
      have hi2 : i = 16 := by omega
      rw [hi2]
      refine am_g 3 (if 16 ≤ (nI 16) then 51 else 12) [some (.ref 23), some (.int m), some (.int k), some (.int (am_orF (am_okF (σ 1) (am_kf σ false) m k) 16)), some (.int (nI 16))] [] (hG σ sr ln Lc μ) rfl ?_
      rw [if_pos (show 16 ≤ (nI 16) from (am_dle (a := 16) (b := 16) (rfl) (rfl) (by omega) (by omega) (by omega)))]
      refine am_g 1 52 [some (.ref 23), some (.int m), some (.int k), some (.int (am_orF (am_okF (σ 1) (am_kf σ false) m k) 16)), some (.int (nI 16))] [.int (am_orF (am_okF (σ 1) (am_kf σ false) m k) 16)] (hG σ sr ln Lc μ) rfl ?_
      exact am_ret2 rfl rfl rfl rfl rfl
    | succ r ih =>
      intro i  hi
      have hi2 : i < 16 := by omega
      refine am_g 3 (if 16 ≤ (nI i) then 51 else 12) [some (.ref 23), some (.int m), some (.int k), some (.int (am_orF (am_okF (σ 1) (am_kf σ false) m k) i)), some (.int (nI i))] [] (hG σ sr ln Lc μ) rfl ?_
      rw [if_neg (show ¬ 16 ≤ (nI i) from (am_dnle (a := 16) (b := i) (rfl) (rfl) (by omega) (by omega) (by omega)))]
      refine am_g 2 15 [some (.ref 23), some (.int m), some (.int k), some (.int (am_orF (am_okF (σ 1) (am_kf σ false) m k) i)), some (.int (nI i))] [.int (nI i), .int m] (hG σ sr ln Lc μ) rfl ?_
      cases e1 : am_hb m i with
      | false =>
        refine am_call (y := 126) (vs := [.int m, .int (nI i)]) (rest := []) (v := (some (.int 0))) (h1 := (hG σ sr ln Lc μ)) rfl rfl rfl (sp_X11_hasBit (d + 1) _ _ _ e1) ?_
        refine am_g 3 5 [some (.ref 23), some (.int m), some (.int k), some (.int (am_orF (am_okF (σ 1) (am_kf σ false) m k) i)), some (.int ((nI i) + 1))] [] (hG σ sr ln Lc μ) rfl ?_
        rw [nI_up]
        rw [show am_orF (am_okF (σ 1) (am_kf σ false) m k) i = am_orF (am_okF (σ 1) (am_kf σ false) m k) (i + 1) from (am_or0 _).symm.trans (congrArg (am_orF (am_okF (σ 1) (am_kf σ false) m k) i ||| ·) (show (0 : Int32) = am_okF (σ 1) (am_kf σ false) m k i from (if_neg (of_decide_eq_false e1)).symm))]
        exact ih (i + 1) (by omega)
      | true =>
        refine am_call (y := 126) (vs := [.int m, .int (nI i)]) (rest := []) (v := (some (.int 1))) (h1 := (hG σ sr ln Lc μ)) rfl rfl rfl (sp_X11_hasBit (d + 1) _ _ _ e1) ?_
        refine am_g 5 28 [some (.ref 23), some (.int m), some (.int k), some (.int (am_orF (am_okF (σ 1) (am_kf σ false) m k) i)), some (.int (nI i))] [.int (nI i), .ref 23, .ref 15] (hG σ sr ln Lc μ) rfl ?_
        refine am_call (y := 59) (vs := [.ref 23, .int (nI i)]) (rest := [.ref 15]) (v := (some (.int (am_kf σ false i)))) (h1 := (hG σ sr ln Lc μ)) rfl rfl rfl (sp_X7_kindOfPoint_0 (σ := σ) (μ := μ) d i (by omega)) ?_
        refine am_g 1 32 [some (.ref 23), some (.int m), some (.int k), some (.int (am_orF (am_okF (σ 1) (am_kf σ false) m k) i)), some (.int (nI i))] [.int k, .int (am_kf σ false i), .ref 15] (hG σ sr ln Lc μ) rfl ?_
        cases e2 : am_undF (σ 1) k 9 (am_kf σ false i) with
        | false =>
          refine am_call (y := 26) (vs := [.ref 15, .int (am_kf σ false i), .int k]) (rest := []) (v := (some (.int 0))) (h1 := (hG σ sr ln Lc μ)) rfl rfl rfl (sp_X3_isUnder (σ := σ) (μ := μ) (d + 1) hab _ _ (hk i (by omega) e1) e2) ?_
          refine am_g 3 5 [some (.ref 23), some (.int m), some (.int k), some (.int (am_orF (am_okF (σ 1) (am_kf σ false) m k) i)), some (.int ((nI i) + 1))] [] (hG σ sr ln Lc μ) rfl ?_
          rw [nI_up]
          rw [show am_orF (am_okF (σ 1) (am_kf σ false) m k) i = am_orF (am_okF (σ 1) (am_kf σ false) m k) (i + 1) from (am_or0 _).symm.trans (congrArg (am_orF (am_okF (σ 1) (am_kf σ false) m k) i ||| ·) (show (0 : Int32) = am_okF (σ 1) (am_kf σ false) m k i from ((if_pos (of_decide_eq_true e1)).trans (by rw [e2]; rfl)).symm))]
          exact ih (i + 1) (by omega)
        | true =>
          refine am_call (y := 26) (vs := [.ref 15, .int (am_kf σ false i), .int k]) (rest := []) (v := (some (.int 1))) (h1 := (hG σ sr ln Lc μ)) rfl rfl rfl (sp_X3_isUnder (σ := σ) (μ := μ) (d + 1) hab _ _ (hk i (by omega) e1) e2) ?_
          refine am_g 9 5 [some (.ref 23), some (.int m), some (.int k), some (.int ((am_orF (am_okF (σ 1) (am_kf σ false) m k) i) ||| (1 <<< ((nI i) &&& 31)))), some (.int ((nI i) + 1))] [] (hG σ sr ln Lc μ) rfl ?_
          rw [nI_up]
          rw [show am_orF (am_okF (σ 1) (am_kf σ false) m k) i ||| (1 <<< ((nI i) &&& 31)) = am_orF (am_okF (σ 1) (am_kf σ false) m k) (i + 1) from congrArg (am_orF (am_okF (σ 1) (am_kf σ false) m k) i ||| ·) (show (1 <<< ((nI i) &&& 31)) = am_okF (σ 1) (am_kf σ false) m k i from ((if_pos (of_decide_eq_true e1)).trans (by rw [e2]; rfl)).symm)]
          exact ih (i + 1) (by omega)
  exact lp 16 0 (by omega)
theorem sp_X7_heldAt_1_k (d : Nat) (k : Nat) (hk : k < 68) : am_X xs LL (d + 1) 56 [.ref 27, .int (nI k)] (hG σ sr ln Lc μ) (some (.int (σ 22 k))) (hG σ sr ln Lc μ) := by
  refine am_XR (d := d + 0) (C := cd_X7_heldAt) (L := [some (.ref 27), some (.int (nI k))]) rfl rfl rfl rfl ?_
  refine am_g 2 (if (nI k) < 0 then 22 else 4) [some (.ref 27), some (.int (nI k))] [] (hG σ sr ln Lc μ) rfl ?_
  rw [if_neg (show ¬ (nI k) < 0 from (am_dnlt (a := k) (b := 0) (rfl) (rfl) (by omega) (by omega) (by omega)))]
  refine am_g 5 (if 68 ≤ (nI k) then 22 else 13) [some (.ref 27), some (.int (nI k))] [] (hG σ sr ln Lc μ) rfl ?_
  rw [if_neg (show ¬ 68 ≤ (nI k) from (am_dnle (a := 68) (b := k) (rfl) (rfl) (by omega) (by omega) (by omega)))]
  refine am_g 3 18 [some (.ref 27), some (.int (nI k))] [.int (nI k), .ref 28] (hG σ sr ln Lc μ) rfl ?_
  refine am_ialdR (n := 68) (f := (σ 22)) (k := k) rfl rfl (rfl) (by omega) (by decide) ?_
  refine am_g 1 23 [some (.ref 27), some (.int (nI k))] [.int (σ 22 k)] (hG σ sr ln Lc μ) rfl ?_
  exact am_ret2 rfl rfl rfl rfl rfl
theorem sp_X7_heldAt_1_n (d : Nat)  : am_X xs LL (d + 1) 56 [.ref 27, .int (-1)] (hG σ sr ln Lc μ) (some (.int 0)) (hG σ sr ln Lc μ) := by
  refine am_XR (d := d + 0) (C := cd_X7_heldAt) (L := [some (.ref 27), some (.int (-1))]) rfl rfl rfl rfl ?_
  refine am_g 3 23 [some (.ref 27), some (.int (-1))] [.int 0] (hG σ sr ln Lc μ) rfl ?_
  exact am_ret2 rfl rfl rfl rfl rfl
theorem sp_X7_heldAt_1 (d : Nat) (p : Int32) (hp : am_pl 68 p) : am_X xs LL (d + 1) 56 [.ref 27, .int p] (hG σ sr ln Lc μ) (some (.int (am_hat (σ 22) p))) (hG σ sr ln Lc μ) := by
  rcases hp with rfl | ⟨k, hk, rfl⟩
  · rw [am_hat_no]; exact sp_X7_heldAt_1_n d
  · rw [am_hat_nI (by omega)]; exact sp_X7_heldAt_1_k d k hk
theorem sp_X7_add_1_k (d : Nat) (k : Nat) (hk : k < 68) (v : Int32) : am_X xs LL (d + 1) 57 [.ref 27, .int (nI k), .int v] (hG σ sr ln Lc μ) none (hG (am_up σ 23 (upd (σ 23) k (σ 23 k ||| v))) sr ln Lc μ) := by
  refine am_XR (d := d + 0) (C := cd_X7_add) (L := [some (.ref 27), some (.int (nI k)), some (.int v)]) rfl rfl rfl rfl ?_
  refine am_g 2 (if (nI k) < 0 then 23 else 4) [some (.ref 27), some (.int (nI k)), some (.int v)] [] (hG σ sr ln Lc μ) rfl ?_
  rw [if_neg (show ¬ (nI k) < 0 from (am_dnlt (a := k) (b := 0) (rfl) (rfl) (by omega) (by omega) (by omega)))]
  refine am_g 5 (if 68 ≤ (nI k) then 23 else 13) [some (.ref 27), some (.int (nI k)), some (.int v)] [] (hG σ sr ln Lc μ) rfl ?_
  rw [if_neg (show ¬ 68 ≤ (nI k) from (am_dnle (a := 68) (b := k) (rfl) (rfl) (by omega) (by omega) (by omega)))]
  refine am_g 4 19 [some (.ref 27), some (.int (nI k)), some (.int v)] [.int (nI k), .ref 29, .int (nI k), .ref 29] (hG σ sr ln Lc μ) rfl ?_
  refine am_ialdR (n := 68) (f := (σ 23)) (k := k) rfl rfl (rfl) (by omega) (by decide) ?_
  refine am_g 2 22 [some (.ref 27), some (.int (nI k)), some (.int v)] [.int ((σ 23 k) ||| v), .int (nI k), .ref 29] (hG σ sr ln Lc μ) rfl ?_
  refine am_iastR (n := 68) (f := (σ 23)) (k := k) (h1 := (hG (am_up σ 23 (upd (σ 23) k ((σ 23 k) ||| v))) sr ln Lc μ)) rfl rfl (rfl) (by omega) (by decide) rfl ?_
  exact am_ret2 rfl rfl rfl rfl rfl
theorem sp_X7_add_1_n (d : Nat) (v : Int32) : am_X xs LL (d + 1) 57 [.ref 27, .int (-1), .int v] (hG σ sr ln Lc μ) none (hG σ sr ln Lc μ) := by
  refine am_XR (d := d + 0) (C := cd_X7_add) (L := [some (.ref 27), some (.int (-1)), some (.int v)]) rfl rfl rfl rfl ?_
  refine am_g 2 23 [some (.ref 27), some (.int (-1)), some (.int v)] [] (hG σ sr ln Lc μ) rfl ?_
  exact am_ret2 rfl rfl rfl rfl rfl
theorem sp_X7_add_1 (d : Nat) (p v : Int32) (hp : am_pl 68 p) : am_X xs LL (d + 1) 57 [.ref 27, .int p, .int v] (hG σ sr ln Lc μ) none (hG (am_up σ 23 (am_add (σ 23) p v)) sr ln Lc μ) := by
  rcases hp with rfl | ⟨k, hk, rfl⟩
  · rw [am_add_no, am_up_id]; exact sp_X7_add_1_n d v
  · rw [am_add_nI (by omega)]; exact sp_X7_add_1_k d k hk v
theorem sp_X7_kindOfPoint_1 (d : Nat) (p : Nat) (hp : p < 16) : am_X xs LL (d + 2) 59 [.ref 27, .int (nI p)] (hG σ sr ln Lc μ) (some (.int (am_kf σ true p))) (hG σ sr ln Lc μ) := by
  refine am_XR (d := d + 1) (C := cd_X7_kindOfPoint) (L := [some (.ref 27), some (.int (nI p))]) rfl rfl rfl rfl ?_
  refine am_g 5 19 [some (.ref 27), some (.int (nI p))] [.int (nI p)] (hG σ sr ln Lc μ) rfl ?_
  exact am_ret2 rfl rfl rfl rfl rfl
theorem sp_X7_aimOfPoint_1 (d : Nat) (hab : am_wab (σ 1)) (p a : Nat) (hp : p < 16) (ha : a < 3) (hk : am_pl 8 (am_kf σ true p)) : am_X xs LL (d + 3) 60 [.ref 27, .int (nI p), .int (nI a)] (hG σ sr ln Lc μ) (some (.int (am_aimF (σ 1) (σ 2) a 9 (am_kf σ true p)))) (hG σ sr ln Lc μ) := by
  refine am_XR (d := d + 2) (C := cd_X7_aimOfPoint) (L := [some (.ref 27), some (.int (nI p)), some (.int (nI a))]) rfl rfl rfl rfl ?_
  refine am_g 4 6 [some (.ref 27), some (.int (nI p)), some (.int (nI a))] [.int (nI p), .ref 27, .ref 15] (hG σ sr ln Lc μ) rfl ?_
  refine am_call (y := 59) (vs := [.ref 27, .int (nI p)]) (rest := [.ref 15]) (v := (some (.int (am_kf σ true p)))) (h1 := (hG σ sr ln Lc μ)) rfl rfl rfl (sp_X7_kindOfPoint_1 (σ := σ) (μ := μ) d p (by omega)) ?_
  refine am_g 1 10 [some (.ref 27), some (.int (nI p)), some (.int (nI a))] [.int (nI a), .int (am_kf σ true p), .ref 15] (hG σ sr ln Lc μ) rfl ?_
  refine am_call (y := 25) (vs := [.ref 15, .int (am_kf σ true p), .int (nI a)]) (rest := []) (v := (some (.int (am_aimF (σ 1) (σ 2) a 9 (am_kf σ true p))))) (h1 := (hG σ sr ln Lc μ)) rfl rfl rfl (sp_X3_aimOf (σ := σ) (μ := μ) (d + 1) hab _ _ (hk) (ha)) ?_
  exact am_ret2 rfl rfl rfl rfl rfl
theorem sp_X7_partUnder_1 (d : Nat) (hab : am_wab (σ 1)) (m k : Int32) (hk : ∀ p, p < 16 → am_hb m p = true → am_pl 8 (am_kf σ true p)) : am_X xs LL (d + 3) 61 [.ref 27, .int m, .int k] (hG σ sr ln Lc μ) (some (.int (am_orF (am_okF (σ 1) (am_kf σ true) m k) 16))) (hG σ sr ln Lc μ) := by
  refine am_XR (d := d + 2) (C := cd_X7_partUnder) (L := [some (.ref 27), some (.int m), some (.int k), none, none]) rfl rfl rfl rfl ?_
  refine am_g 4 5 [some (.ref 27), some (.int m), some (.int k), some (.int 0), some (.int 0)] [] (hG σ sr ln Lc μ) rfl ?_
  have lp : ∀ (r i : Nat), i + r = 16 → am_R xs LL cd_X7_partUnder (am_X xs LL (d + 2)) 5 [some (.ref 27), some (.int m), some (.int k), some (.int (am_orF (am_okF (σ 1) (am_kf σ true) m k) i)), some (.int (nI i))] [] (hG σ sr ln Lc μ) (some (.int (am_orF (am_okF (σ 1) (am_kf σ true) m k) 16))) (hG σ sr ln Lc μ) := by
    intro r
    induction r with
    | zero =>
      intro i  hi
      have hi2 : i = 16 := by omega
      rw [hi2]
      refine am_g 3 (if 16 ≤ (nI 16) then 51 else 12) [some (.ref 27), some (.int m), some (.int k), some (.int (am_orF (am_okF (σ 1) (am_kf σ true) m k) 16)), some (.int (nI 16))] [] (hG σ sr ln Lc μ) rfl ?_
      rw [if_pos (show 16 ≤ (nI 16) from (am_dle (a := 16) (b := 16) (rfl) (rfl) (by omega) (by omega) (by omega)))]
      refine am_g 1 52 [some (.ref 27), some (.int m), some (.int k), some (.int (am_orF (am_okF (σ 1) (am_kf σ true) m k) 16)), some (.int (nI 16))] [.int (am_orF (am_okF (σ 1) (am_kf σ true) m k) 16)] (hG σ sr ln Lc μ) rfl ?_
      exact am_ret2 rfl rfl rfl rfl rfl
    | succ r ih =>
      intro i  hi
      have hi2 : i < 16 := by omega
      refine am_g 3 (if 16 ≤ (nI i) then 51 else 12) [some (.ref 27), some (.int m), some (.int k), some (.int (am_orF (am_okF (σ 1) (am_kf σ true) m k) i)), some (.int (nI i))] [] (hG σ sr ln Lc μ) rfl ?_
      rw [if_neg (show ¬ 16 ≤ (nI i) from (am_dnle (a := 16) (b := i) (rfl) (rfl) (by omega) (by omega) (by omega)))]
      refine am_g 2 15 [some (.ref 27), some (.int m), some (.int k), some (.int (am_orF (am_okF (σ 1) (am_kf σ true) m k) i)), some (.int (nI i))] [.int (nI i), .int m] (hG σ sr ln Lc μ) rfl ?_
      cases e1 : am_hb m i with
      | false =>
        refine am_call (y := 126) (vs := [.int m, .int (nI i)]) (rest := []) (v := (some (.int 0))) (h1 := (hG σ sr ln Lc μ)) rfl rfl rfl (sp_X11_hasBit (d + 1) _ _ _ e1) ?_
        refine am_g 3 5 [some (.ref 27), some (.int m), some (.int k), some (.int (am_orF (am_okF (σ 1) (am_kf σ true) m k) i)), some (.int ((nI i) + 1))] [] (hG σ sr ln Lc μ) rfl ?_
        rw [nI_up]
        rw [show am_orF (am_okF (σ 1) (am_kf σ true) m k) i = am_orF (am_okF (σ 1) (am_kf σ true) m k) (i + 1) from (am_or0 _).symm.trans (congrArg (am_orF (am_okF (σ 1) (am_kf σ true) m k) i ||| ·) (show (0 : Int32) = am_okF (σ 1) (am_kf σ true) m k i from (if_neg (of_decide_eq_false e1)).symm))]
        exact ih (i + 1) (by omega)
      | true =>
        refine am_call (y := 126) (vs := [.int m, .int (nI i)]) (rest := []) (v := (some (.int 1))) (h1 := (hG σ sr ln Lc μ)) rfl rfl rfl (sp_X11_hasBit (d + 1) _ _ _ e1) ?_
        refine am_g 5 28 [some (.ref 27), some (.int m), some (.int k), some (.int (am_orF (am_okF (σ 1) (am_kf σ true) m k) i)), some (.int (nI i))] [.int (nI i), .ref 27, .ref 15] (hG σ sr ln Lc μ) rfl ?_
        refine am_call (y := 59) (vs := [.ref 27, .int (nI i)]) (rest := [.ref 15]) (v := (some (.int (am_kf σ true i)))) (h1 := (hG σ sr ln Lc μ)) rfl rfl rfl (sp_X7_kindOfPoint_1 (σ := σ) (μ := μ) d i (by omega)) ?_
        refine am_g 1 32 [some (.ref 27), some (.int m), some (.int k), some (.int (am_orF (am_okF (σ 1) (am_kf σ true) m k) i)), some (.int (nI i))] [.int k, .int (am_kf σ true i), .ref 15] (hG σ sr ln Lc μ) rfl ?_
        cases e2 : am_undF (σ 1) k 9 (am_kf σ true i) with
        | false =>
          refine am_call (y := 26) (vs := [.ref 15, .int (am_kf σ true i), .int k]) (rest := []) (v := (some (.int 0))) (h1 := (hG σ sr ln Lc μ)) rfl rfl rfl (sp_X3_isUnder (σ := σ) (μ := μ) (d + 1) hab _ _ (hk i (by omega) e1) e2) ?_
          refine am_g 3 5 [some (.ref 27), some (.int m), some (.int k), some (.int (am_orF (am_okF (σ 1) (am_kf σ true) m k) i)), some (.int ((nI i) + 1))] [] (hG σ sr ln Lc μ) rfl ?_
          rw [nI_up]
          rw [show am_orF (am_okF (σ 1) (am_kf σ true) m k) i = am_orF (am_okF (σ 1) (am_kf σ true) m k) (i + 1) from (am_or0 _).symm.trans (congrArg (am_orF (am_okF (σ 1) (am_kf σ true) m k) i ||| ·) (show (0 : Int32) = am_okF (σ 1) (am_kf σ true) m k i from ((if_pos (of_decide_eq_true e1)).trans (by rw [e2]; rfl)).symm))]
          exact ih (i + 1) (by omega)
        | true =>
          refine am_call (y := 26) (vs := [.ref 15, .int (am_kf σ true i), .int k]) (rest := []) (v := (some (.int 1))) (h1 := (hG σ sr ln Lc μ)) rfl rfl rfl (sp_X3_isUnder (σ := σ) (μ := μ) (d + 1) hab _ _ (hk i (by omega) e1) e2) ?_
          refine am_g 9 5 [some (.ref 27), some (.int m), some (.int k), some (.int ((am_orF (am_okF (σ 1) (am_kf σ true) m k) i) ||| (1 <<< ((nI i) &&& 31)))), some (.int ((nI i) + 1))] [] (hG σ sr ln Lc μ) rfl ?_
          rw [nI_up]
          rw [show am_orF (am_okF (σ 1) (am_kf σ true) m k) i ||| (1 <<< ((nI i) &&& 31)) = am_orF (am_okF (σ 1) (am_kf σ true) m k) (i + 1) from congrArg (am_orF (am_okF (σ 1) (am_kf σ true) m k) i ||| ·) (show (1 <<< ((nI i) &&& 31)) = am_okF (σ 1) (am_kf σ true) m k i from ((if_pos (of_decide_eq_true e1)).trans (by rw [e2]; rfl)).symm)]
          exact ih (i + 1) (by omega)
  exact lp 16 0 (by omega)
theorem sp_X7_heldAt_2_k (d : Nat) (k : Nat) (hk : k < 68) : am_X xs LL (d + 1) 56 [.ref 31, .int (nI k)] (hG σ sr ln Lc μ) (some (.int (σ 32 k))) (hG σ sr ln Lc μ) := by
  refine am_XR (d := d + 0) (C := cd_X7_heldAt) (L := [some (.ref 31), some (.int (nI k))]) rfl rfl rfl rfl ?_
  refine am_g 2 (if (nI k) < 0 then 22 else 4) [some (.ref 31), some (.int (nI k))] [] (hG σ sr ln Lc μ) rfl ?_
  rw [if_neg (show ¬ (nI k) < 0 from (am_dnlt (a := k) (b := 0) (rfl) (rfl) (by omega) (by omega) (by omega)))]
  refine am_g 5 (if 68 ≤ (nI k) then 22 else 13) [some (.ref 31), some (.int (nI k))] [] (hG σ sr ln Lc μ) rfl ?_
  rw [if_neg (show ¬ 68 ≤ (nI k) from (am_dnle (a := 68) (b := k) (rfl) (rfl) (by omega) (by omega) (by omega)))]
  refine am_g 3 18 [some (.ref 31), some (.int (nI k))] [.int (nI k), .ref 32] (hG σ sr ln Lc μ) rfl ?_
  refine am_ialdR (n := 68) (f := (σ 32)) (k := k) rfl rfl (rfl) (by omega) (by decide) ?_
  refine am_g 1 23 [some (.ref 31), some (.int (nI k))] [.int (σ 32 k)] (hG σ sr ln Lc μ) rfl ?_
  exact am_ret2 rfl rfl rfl rfl rfl
theorem sp_X7_heldAt_2_n (d : Nat)  : am_X xs LL (d + 1) 56 [.ref 31, .int (-1)] (hG σ sr ln Lc μ) (some (.int 0)) (hG σ sr ln Lc μ) := by
  refine am_XR (d := d + 0) (C := cd_X7_heldAt) (L := [some (.ref 31), some (.int (-1))]) rfl rfl rfl rfl ?_
  refine am_g 3 23 [some (.ref 31), some (.int (-1))] [.int 0] (hG σ sr ln Lc μ) rfl ?_
  exact am_ret2 rfl rfl rfl rfl rfl
theorem sp_X7_heldAt_2 (d : Nat) (p : Int32) (hp : am_pl 68 p) : am_X xs LL (d + 1) 56 [.ref 31, .int p] (hG σ sr ln Lc μ) (some (.int (am_hat (σ 32) p))) (hG σ sr ln Lc μ) := by
  rcases hp with rfl | ⟨k, hk, rfl⟩
  · rw [am_hat_no]; exact sp_X7_heldAt_2_n d
  · rw [am_hat_nI (by omega)]; exact sp_X7_heldAt_2_k d k hk
theorem sp_X7_add_2_k (d : Nat) (k : Nat) (hk : k < 68) (v : Int32) : am_X xs LL (d + 1) 57 [.ref 31, .int (nI k), .int v] (hG σ sr ln Lc μ) none (hG (am_up σ 33 (upd (σ 33) k (σ 33 k ||| v))) sr ln Lc μ) := by
  refine am_XR (d := d + 0) (C := cd_X7_add) (L := [some (.ref 31), some (.int (nI k)), some (.int v)]) rfl rfl rfl rfl ?_
  refine am_g 2 (if (nI k) < 0 then 23 else 4) [some (.ref 31), some (.int (nI k)), some (.int v)] [] (hG σ sr ln Lc μ) rfl ?_
  rw [if_neg (show ¬ (nI k) < 0 from (am_dnlt (a := k) (b := 0) (rfl) (rfl) (by omega) (by omega) (by omega)))]
  refine am_g 5 (if 68 ≤ (nI k) then 23 else 13) [some (.ref 31), some (.int (nI k)), some (.int v)] [] (hG σ sr ln Lc μ) rfl ?_
  rw [if_neg (show ¬ 68 ≤ (nI k) from (am_dnle (a := 68) (b := k) (rfl) (rfl) (by omega) (by omega) (by omega)))]
  refine am_g 4 19 [some (.ref 31), some (.int (nI k)), some (.int v)] [.int (nI k), .ref 33, .int (nI k), .ref 33] (hG σ sr ln Lc μ) rfl ?_
  refine am_ialdR (n := 68) (f := (σ 33)) (k := k) rfl rfl (rfl) (by omega) (by decide) ?_
  refine am_g 2 22 [some (.ref 31), some (.int (nI k)), some (.int v)] [.int ((σ 33 k) ||| v), .int (nI k), .ref 33] (hG σ sr ln Lc μ) rfl ?_
  refine am_iastR (n := 68) (f := (σ 33)) (k := k) (h1 := (hG (am_up σ 33 (upd (σ 33) k ((σ 33 k) ||| v))) sr ln Lc μ)) rfl rfl (rfl) (by omega) (by decide) rfl ?_
  exact am_ret2 rfl rfl rfl rfl rfl
theorem sp_X7_add_2_n (d : Nat) (v : Int32) : am_X xs LL (d + 1) 57 [.ref 31, .int (-1), .int v] (hG σ sr ln Lc μ) none (hG σ sr ln Lc μ) := by
  refine am_XR (d := d + 0) (C := cd_X7_add) (L := [some (.ref 31), some (.int (-1)), some (.int v)]) rfl rfl rfl rfl ?_
  refine am_g 2 23 [some (.ref 31), some (.int (-1)), some (.int v)] [] (hG σ sr ln Lc μ) rfl ?_
  exact am_ret2 rfl rfl rfl rfl rfl
theorem sp_X7_add_2 (d : Nat) (p v : Int32) (hp : am_pl 68 p) : am_X xs LL (d + 1) 57 [.ref 31, .int p, .int v] (hG σ sr ln Lc μ) none (hG (am_up σ 33 (am_add (σ 33) p v)) sr ln Lc μ) := by
  rcases hp with rfl | ⟨k, hk, rfl⟩
  · rw [am_add_no, am_up_id]; exact sp_X7_add_2_n d v
  · rw [am_add_nI (by omega)]; exact sp_X7_add_2_k d k hk v
theorem sp_X7_kindOfPoint_2 (d : Nat) (p : Nat) (hp : p < 16) : am_X xs LL (d + 2) 59 [.ref 31, .int (nI p)] (hG σ sr ln Lc μ) (some (.int (am_kf σ false p))) (hG σ sr ln Lc μ) := by
  refine am_XR (d := d + 1) (C := cd_X7_kindOfPoint) (L := [some (.ref 31), some (.int (nI p))]) rfl rfl rfl rfl ?_
  refine am_g 6 16 [some (.ref 31), some (.int (nI p))] [.int (nI p), .ref 15] (hG σ sr ln Lc μ) rfl ?_
  refine am_call (y := 32) (vs := [.ref 15, .int (nI p)]) (rest := []) (v := (some (.int (σ 4 p)))) (h1 := (hG σ sr ln Lc μ)) rfl rfl rfl (sp_X3_kindOfObject_ok (σ := σ) (μ := μ) d p (by omega)) ?_
  exact am_ret2 rfl rfl rfl rfl rfl
theorem sp_X7_aimOfPoint_2 (d : Nat) (hab : am_wab (σ 1)) (p a : Nat) (hp : p < 16) (ha : a < 3) (hk : am_pl 8 (am_kf σ false p)) : am_X xs LL (d + 3) 60 [.ref 31, .int (nI p), .int (nI a)] (hG σ sr ln Lc μ) (some (.int (am_aimF (σ 1) (σ 2) a 9 (am_kf σ false p)))) (hG σ sr ln Lc μ) := by
  refine am_XR (d := d + 2) (C := cd_X7_aimOfPoint) (L := [some (.ref 31), some (.int (nI p)), some (.int (nI a))]) rfl rfl rfl rfl ?_
  refine am_g 4 6 [some (.ref 31), some (.int (nI p)), some (.int (nI a))] [.int (nI p), .ref 31, .ref 15] (hG σ sr ln Lc μ) rfl ?_
  refine am_call (y := 59) (vs := [.ref 31, .int (nI p)]) (rest := [.ref 15]) (v := (some (.int (am_kf σ false p)))) (h1 := (hG σ sr ln Lc μ)) rfl rfl rfl (sp_X7_kindOfPoint_2 (σ := σ) (μ := μ) d p (by omega)) ?_
  refine am_g 1 10 [some (.ref 31), some (.int (nI p)), some (.int (nI a))] [.int (nI a), .int (am_kf σ false p), .ref 15] (hG σ sr ln Lc μ) rfl ?_
  refine am_call (y := 25) (vs := [.ref 15, .int (am_kf σ false p), .int (nI a)]) (rest := []) (v := (some (.int (am_aimF (σ 1) (σ 2) a 9 (am_kf σ false p))))) (h1 := (hG σ sr ln Lc μ)) rfl rfl rfl (sp_X3_aimOf (σ := σ) (μ := μ) (d + 1) hab _ _ (hk) (ha)) ?_
  exact am_ret2 rfl rfl rfl rfl rfl
theorem sp_X7_partUnder_2 (d : Nat) (hab : am_wab (σ 1)) (m k : Int32) (hk : ∀ p, p < 16 → am_hb m p = true → am_pl 8 (am_kf σ false p)) : am_X xs LL (d + 3) 61 [.ref 31, .int m, .int k] (hG σ sr ln Lc μ) (some (.int (am_orF (am_okF (σ 1) (am_kf σ false) m k) 16))) (hG σ sr ln Lc μ) := by
  refine am_XR (d := d + 2) (C := cd_X7_partUnder) (L := [some (.ref 31), some (.int m), some (.int k), none, none]) rfl rfl rfl rfl ?_
  refine am_g 4 5 [some (.ref 31), some (.int m), some (.int k), some (.int 0), some (.int 0)] [] (hG σ sr ln Lc μ) rfl ?_
  have lp : ∀ (r i : Nat), i + r = 16 → am_R xs LL cd_X7_partUnder (am_X xs LL (d + 2)) 5 [some (.ref 31), some (.int m), some (.int k), some (.int (am_orF (am_okF (σ 1) (am_kf σ false) m k) i)), some (.int (nI i))] [] (hG σ sr ln Lc μ) (some (.int (am_orF (am_okF (σ 1) (am_kf σ false) m k) 16))) (hG σ sr ln Lc μ) := by
    intro r
    induction r with
    | zero =>
      intro i  hi
      have hi2 : i = 16 := by omega
      rw [hi2]
      refine am_g 3 (if 16 ≤ (nI 16) then 51 else 12) [some (.ref 31), some (.int m), some (.int k), some (.int (am_orF (am_okF (σ 1) (am_kf σ false) m k) 16)), some (.int (nI 16))] [] (hG σ sr ln Lc μ) rfl ?_
      rw [if_pos (show 16 ≤ (nI 16) from (am_dle (a := 16) (b := 16) (rfl) (rfl) (by omega) (by omega) (by omega)))]
      refine am_g 1 52 [some (.ref 31), some (.int m), some (.int k), some (.int (am_orF (am_okF (σ 1) (am_kf σ false) m k) 16)), some (.int (nI 16))] [.int (am_orF (am_okF (σ 1) (am_kf σ false) m k) 16)] (hG σ sr ln Lc μ) rfl ?_
      exact am_ret2 rfl rfl rfl rfl rfl
    | succ r ih =>
      intro i  hi
      have hi2 : i < 16 := by omega
      refine am_g 3 (if 16 ≤ (nI i) then 51 else 12) [some (.ref 31), some (.int m), some (.int k), some (.int (am_orF (am_okF (σ 1) (am_kf σ false) m k) i)), some (.int (nI i))] [] (hG σ sr ln Lc μ) rfl ?_
      rw [if_neg (show ¬ 16 ≤ (nI i) from (am_dnle (a := 16) (b := i) (rfl) (rfl) (by omega) (by omega) (by omega)))]
      refine am_g 2 15 [some (.ref 31), some (.int m), some (.int k), some (.int (am_orF (am_okF (σ 1) (am_kf σ false) m k) i)), some (.int (nI i))] [.int (nI i), .int m] (hG σ sr ln Lc μ) rfl ?_
      cases e1 : am_hb m i with
      | false =>
        refine am_call (y := 126) (vs := [.int m, .int (nI i)]) (rest := []) (v := (some (.int 0))) (h1 := (hG σ sr ln Lc μ)) rfl rfl rfl (sp_X11_hasBit (d + 1) _ _ _ e1) ?_
        refine am_g 3 5 [some (.ref 31), some (.int m), some (.int k), some (.int (am_orF (am_okF (σ 1) (am_kf σ false) m k) i)), some (.int ((nI i) + 1))] [] (hG σ sr ln Lc μ) rfl ?_
        rw [nI_up]
        rw [show am_orF (am_okF (σ 1) (am_kf σ false) m k) i = am_orF (am_okF (σ 1) (am_kf σ false) m k) (i + 1) from (am_or0 _).symm.trans (congrArg (am_orF (am_okF (σ 1) (am_kf σ false) m k) i ||| ·) (show (0 : Int32) = am_okF (σ 1) (am_kf σ false) m k i from (if_neg (of_decide_eq_false e1)).symm))]
        exact ih (i + 1) (by omega)
      | true =>
        refine am_call (y := 126) (vs := [.int m, .int (nI i)]) (rest := []) (v := (some (.int 1))) (h1 := (hG σ sr ln Lc μ)) rfl rfl rfl (sp_X11_hasBit (d + 1) _ _ _ e1) ?_
        refine am_g 5 28 [some (.ref 31), some (.int m), some (.int k), some (.int (am_orF (am_okF (σ 1) (am_kf σ false) m k) i)), some (.int (nI i))] [.int (nI i), .ref 31, .ref 15] (hG σ sr ln Lc μ) rfl ?_
        refine am_call (y := 59) (vs := [.ref 31, .int (nI i)]) (rest := [.ref 15]) (v := (some (.int (am_kf σ false i)))) (h1 := (hG σ sr ln Lc μ)) rfl rfl rfl (sp_X7_kindOfPoint_2 (σ := σ) (μ := μ) d i (by omega)) ?_
        refine am_g 1 32 [some (.ref 31), some (.int m), some (.int k), some (.int (am_orF (am_okF (σ 1) (am_kf σ false) m k) i)), some (.int (nI i))] [.int k, .int (am_kf σ false i), .ref 15] (hG σ sr ln Lc μ) rfl ?_
        cases e2 : am_undF (σ 1) k 9 (am_kf σ false i) with
        | false =>
          refine am_call (y := 26) (vs := [.ref 15, .int (am_kf σ false i), .int k]) (rest := []) (v := (some (.int 0))) (h1 := (hG σ sr ln Lc μ)) rfl rfl rfl (sp_X3_isUnder (σ := σ) (μ := μ) (d + 1) hab _ _ (hk i (by omega) e1) e2) ?_
          refine am_g 3 5 [some (.ref 31), some (.int m), some (.int k), some (.int (am_orF (am_okF (σ 1) (am_kf σ false) m k) i)), some (.int ((nI i) + 1))] [] (hG σ sr ln Lc μ) rfl ?_
          rw [nI_up]
          rw [show am_orF (am_okF (σ 1) (am_kf σ false) m k) i = am_orF (am_okF (σ 1) (am_kf σ false) m k) (i + 1) from (am_or0 _).symm.trans (congrArg (am_orF (am_okF (σ 1) (am_kf σ false) m k) i ||| ·) (show (0 : Int32) = am_okF (σ 1) (am_kf σ false) m k i from ((if_pos (of_decide_eq_true e1)).trans (by rw [e2]; rfl)).symm))]
          exact ih (i + 1) (by omega)
        | true =>
          refine am_call (y := 26) (vs := [.ref 15, .int (am_kf σ false i), .int k]) (rest := []) (v := (some (.int 1))) (h1 := (hG σ sr ln Lc μ)) rfl rfl rfl (sp_X3_isUnder (σ := σ) (μ := μ) (d + 1) hab _ _ (hk i (by omega) e1) e2) ?_
          refine am_g 9 5 [some (.ref 31), some (.int m), some (.int k), some (.int ((am_orF (am_okF (σ 1) (am_kf σ false) m k) i) ||| (1 <<< ((nI i) &&& 31)))), some (.int ((nI i) + 1))] [] (hG σ sr ln Lc μ) rfl ?_
          rw [nI_up]
          rw [show am_orF (am_okF (σ 1) (am_kf σ false) m k) i ||| (1 <<< ((nI i) &&& 31)) = am_orF (am_okF (σ 1) (am_kf σ false) m k) (i + 1) from congrArg (am_orF (am_okF (σ 1) (am_kf σ false) m k) i ||| ·) (show (1 <<< ((nI i) &&& 31)) = am_okF (σ 1) (am_kf σ false) m k i from ((if_pos (of_decide_eq_true e1)).trans (by rw [e2]; rfl)).symm)]
          exact ih (i + 1) (by omega)
  exact lp 16 0 (by omega)
end XS
