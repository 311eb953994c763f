/-! what leaves -/
def pu_ex (p : Nat → Bool) : Nat → Nat → Bool
  | 0, _ => false
  | r + 1, i => p i || pu_ex p r (i + 1)
def pu_elP (ln : Nat → Nat → Int32) (Lc : Nat) (H : Nat → Int32) (m o i : Nat) : Bool := decide (i < Lc ∧ ¬ ln i 6 = 0 ∧ ¬ ln i 5 = ln m 5) && am_hb (am_hat H (ln i 0)) o
theorem pu_ex_t {p : Nat → Bool} {r i : Nat} (h : p i = true) : pu_ex p (r + 1) i = true := by
  show (p i || pu_ex p r (i + 1)) = true
  rw [h]; rfl
theorem pu_ex_f {p : Nat → Bool} {r i : Nat} (h : p i = false) : pu_ex p (r + 1) i = pu_ex p r (i + 1) := by
  show (p i || pu_ex p r (i + 1)) = _
  rw [h]; rfl
def pu_hfS (H : Nat → Int32) (m : Int32) (p : Nat) (a : Int32) : Int32 := bif am_hb m p then a ||| H (20 + 3 * p + 0) ||| H (20 + 3 * p + 1) ||| H (20 + 3 * p + 2) else a
def pu_leS (sr : Nat → Nat) (ln : Nat → Nat → Int32) (Lc : Nat) (H : Nat → Int32) (i : Nat) (a : Int32) : Int32 := if i < Lc then (if sr i = 5 then (bif pu_ex (pu_elP ln Lc H i (ln i 7).toNatClampNeg) 40 0 then a ||| 1 <<< (ln i 7 &&& 31) else a) else a) else a
def pu_lfS (H : Nat → Int32) (_i : Nat) (a : Int32) : Int32 := a ||| am_it (pu_hfS H a) 0 16
/-- what was before the r-th turn -/
def am_bfr (f : Nat → Int32 → Int32) (a : Int32) : Nat → Int32
  | 0 => 0
  | r + 1 => am_it f a r
section LV
variable {xs : Nat → Int32} {LL : Nat} {σ μ τ ν : Nat → Nat → Int32} {sr : Nat → Nat} {ln : Nat → Nat → Int32} {Lc O : Nat}
theorem sp_X11_hasBit_v (d : Nat) (m : Int32) (p : Nat) (v : Int32) (hv : v = nI p) (h : am_H) {b : Bool} (eb : am_hb m p = b) : am_X xs LL (d + 1) 126 [.int m, .int v] h (some (.int (am_b2 b))) h := by
  subst hv
  exact sp_X11_hasBit d m p h eb
theorem pu_wl0 {s : Nat} {f : Nat → Int32} (hw : am_wl s f) : am_pl 68 (f 0) := by
  obtain ⟨⟨a, ha, h0⟩, -⟩ := hw
  exact Or.inr ⟨a, by omega, h0⟩
theorem sp_X11_isHeldElsewhere (d : Nat) (hsr : ∀ i, i < Lc → sr i < 6) (hwl : ∀ i, i < Lc → am_wl (sr i) (ln i)) (m : Nat) (hm : m < Lc) (hs : sr m = 5) {o : Nat} (ho : o < 16) (h7 : ln m 7 = nI o) : am_X xs LL (d + 2) 137 [.ref 14, .ref (75 + m), .ref 23] (hG τ sr ln Lc μ) (some (.int (am_b2 (pu_ex (pu_elP ln Lc (τ 12) m o) 40 0)))) (hG τ sr ln Lc μ) := by
  refine am_XR (d := d + 1) (C := cd_X11_isHeldElsewhere) (L := [some (.ref 14), some (.ref (75 + m)), some (.ref 23), none, none, none, none]) rfl rfl rfl rfl ?_
  refine am_g 8 12 [some (.ref 14), some (.ref (75 + m)), some (.ref 23), some (.ref 22), some (.int 40), some (.int 0), none] [] (hG τ sr ln Lc μ) rfl ?_
  have lp : ∀ (r i : Nat) (w : Option Value), i + r = 40 → am_R xs LL cd_X11_isHeldElsewhere (am_X xs LL (d + 1)) 12 [some (.ref 14), some (.ref (75 + m)), some (.ref 23), some (.ref 22), some (.int 40), some (.int (nI i)), w] [] (hG τ sr ln Lc μ) (some (.int (am_b2 (pu_ex (pu_elP ln Lc (τ 12) m o) r i)))) (hG τ sr ln Lc μ) := by
    intro r
    induction r with
    | zero =>
      intro i w hi
      have hi2 : i = 40 := by omega
      rw [hi2]
      refine am_g 3 (if 40 ≤ (nI 40) then 77 else 19) [some (.ref 14), some (.ref (75 + m)), some (.ref 23), some (.ref 22), some (.int 40), some (.int (nI 40)), w] [] (hG τ sr ln Lc μ) rfl ?_
      rw [if_pos (show 40 ≤ (nI 40) from (am_dle (a := 40) (b := 40) (rfl) (rfl) (by omega) (by omega) (by omega)))]
      refine am_g 1 78 [some (.ref 14), some (.ref (75 + m)), some (.ref 23), some (.ref 22), some (.int 40), some (.int (nI 40)), w] [.int 0] (hG τ sr ln Lc μ) rfl ?_
      exact am_ret2 rfl rfl rfl rfl rfl
    | succ r ih =>
      intro i w hi
      have hi2 : i < 40 := by omega
      by_cases hL2 : i < Lc
      · skip
        refine am_g 3 (if 40 ≤ (nI i) then 77 else 19) [some (.ref 14), some (.ref (75 + m)), some (.ref 23), some (.ref 22), some (.int 40), some (.int (nI i)), w] [] (hG τ sr ln Lc μ) rfl ?_
        rw [if_neg (show ¬ 40 ≤ (nI i) from (am_dnle (a := 40) (b := i) (rfl) (rfl) (by omega) (by omega) (by omega)))]
        refine am_g 2 22 [some (.ref 14), some (.ref (75 + m)), some (.ref 23), some (.ref 22), some (.int 40), some (.int (nI i)), w] [.int (nI i), .ref 22] (hG τ sr ln Lc μ) rfl ?_
        refine am_laldR (k := i) rfl (rfl) (hL2) (by omega) ?_
        refine am_g 2 27 [some (.ref 14), some (.ref (75 + m)), some (.ref 23), some (.ref 22), some (.int 40), some (.int (nI i)), some (.ref (75 + i))] [.ref (75 + i)] (hG τ sr ln Lc μ) rfl ?_
        refine am_lnnR rfl _ ?_
        refine am_g 1 32 [some (.ref 14), some (.ref (75 + m)), some (.ref 23), some (.ref 22), some (.int 40), some (.int (nI i)), some (.ref (75 + i))] [.ref (75 + i)] (hG τ sr ln Lc μ) rfl ?_
        refine am_lgetR (i := i) (k := 6) rfl hL2 (by decide) (am_lkx (by decide) (hsr _ hL2)) ?_
        refine am_g 1 (if (ln i 6) = 0 then 71 else 38) [some (.ref 14), some (.ref (75 + m)), some (.ref 23), some (.ref 22), some (.int 40), some (.int (nI i)), some (.ref (75 + i))] [] (hG τ sr ln Lc μ) rfl (am_brR (fun c1 => ?_) (fun c1 => ?_))
        · skip
          refine am_g 2 12 [some (.ref 14), some (.ref (75 + m)), some (.ref 23), some (.ref 22), some (.int 40), some (.int ((nI i) + 1)), some (.ref (75 + i))] [] (hG τ sr ln Lc μ) rfl ?_
          rw [pu_ex_f (show pu_elP ln Lc (τ 12) m o i = false from by unfold pu_elP; rw [decide_eq_false (fun q => q.2.1 c1)]; rfl), nI_up]
          exact ih (i + 1) _ (by omega)
        · skip
          refine am_g 1 40 [some (.ref 14), some (.ref (75 + m)), some (.ref 23), some (.ref 22), some (.int 40), some (.int (nI i)), some (.ref (75 + i))] [.ref (75 + i)] (hG τ sr ln Lc μ) rfl ?_
          refine am_lgetR (i := i) (k := 5) rfl hL2 (by decide) (am_lkx (by decide) (hsr _ hL2)) ?_
          refine am_g 1 44 [some (.ref 14), some (.ref (75 + m)), some (.ref 23), some (.ref 22), some (.int 40), some (.int (nI i)), some (.ref (75 + i))] [.ref (75 + m), .int (ln i 5)] (hG τ sr ln Lc μ) rfl ?_
          refine am_lgetR (i := m) (k := 5) rfl hm (by decide) (by rw [hs]; exact ⟨_, rfl⟩) ?_
          refine am_g 1 (if (ln i 5) = (ln m 5) then 71 else 50) [some (.ref 14), some (.ref (75 + m)), some (.ref 23), some (.ref 22), some (.int 40), some (.int (nI i)), some (.ref (75 + i))] [] (hG τ sr ln Lc μ) rfl (am_brR (fun c2 => ?_) (fun c2 => ?_))
          · skip
            refine am_g 2 12 [some (.ref 14), some (.ref (75 + m)), some (.ref 23), some (.ref 22), some (.int 40), some (.int ((nI i) + 1)), some (.ref (75 + i))] [] (hG τ sr ln Lc μ) rfl ?_
            rw [pu_ex_f (show pu_elP ln Lc (τ 12) m o i = false from by unfold pu_elP; rw [decide_eq_false (fun q => q.2.2 c2)]; rfl), nI_up]
            exact ih (i + 1) _ (by omega)
          · skip
            refine am_g 2 53 [some (.ref 14), some (.ref (75 + m)), some (.ref 23), some (.ref 22), some (.int 40), some (.int (nI i)), some (.ref (75 + i))] [.ref (75 + i), .ref 23] (hG τ sr ln Lc μ) rfl ?_
            refine am_lgetR (i := i) (k := 0) rfl hL2 (by decide) (am_lkx (by decide) (hsr _ hL2)) ?_
            refine am_call (y := 56) (vs := [.ref 23, .int (ln i 0)]) (rest := []) (v := (some (.int (am_hat (τ 12) (ln i 0))))) (h1 := (hG τ sr ln Lc μ)) rfl rfl rfl (sp_X7_heldAt_0 (σ := τ) (μ := μ) d _ (pu_wl0 (hwl i hL2))) ?_
            refine am_g 1 60 [some (.ref 14), some (.ref (75 + m)), some (.ref 23), some (.ref 22), some (.int 40), some (.int (nI i)), some (.ref (75 + i))] [.ref (75 + m), .int (am_hat (τ 12) (ln i 0))] (hG τ sr ln Lc μ) rfl ?_
            refine am_call (y := 42) (vs := [.ref (75 + m)]) (rest := [.int (am_hat (τ 12) (ln i 0))]) (v := (some (.int (ln m 7)))) (h1 := (hG τ sr ln Lc μ)) rfl rfl (am_tgtL (i := m) rfl rfl hm (by rw [hs]; rfl) rfl rfl) (sp_X5_object (σ := τ) (μ := μ) d m hm hs) ?_
            cases e3 : am_hb (am_hat (τ 12) (ln i 0)) o with
            | false =>
              refine am_call (y := 126) (vs := [.int (am_hat (τ 12) (ln i 0)), .int (ln m 7)]) (rest := []) (v := (some (.int 0))) (h1 := (hG τ sr ln Lc μ)) rfl rfl rfl (sp_X11_hasBit_v d _ _ _ h7 _ e3) ?_
              refine am_g 3 12 [some (.ref 14), some (.ref (75 + m)), some (.ref 23), some (.ref 22), some (.int 40), some (.int ((nI i) + 1)), some (.ref (75 + i))] [] (hG τ sr ln Lc μ) rfl ?_
              rw [pu_ex_f (show pu_elP ln Lc (τ 12) m o i = false from by unfold pu_elP; rw [e3, Bool.and_false]), nI_up]
              exact ih (i + 1) _ (by omega)
            | true =>
              refine am_call (y := 126) (vs := [.int (am_hat (τ 12) (ln i 0)), .int (ln m 7)]) (rest := []) (v := (some (.int 1))) (h1 := (hG τ sr ln Lc μ)) rfl rfl rfl (sp_X11_hasBit_v d _ _ _ h7 _ e3) ?_
              refine am_g 2 70 [some (.ref 14), some (.ref (75 + m)), some (.ref 23), some (.ref 22), some (.int 40), some (.int (nI i)), some (.ref (75 + i))] [.int 1] (hG τ sr ln Lc μ) rfl ?_
              rw [pu_ex_t (show pu_elP ln Lc (τ 12) m o i = true from by unfold pu_elP; rw [decide_eq_true ⟨hL2, c1, c2⟩, e3]; rfl)]; exact am_ret2 rfl rfl rfl rfl rfl
      · skip
        refine am_g 3 (if 40 ≤ (nI i) then 77 else 19) [some (.ref 14), some (.ref (75 + m)), some (.ref 23), some (.ref 22), some (.int 40), some (.int (nI i)), w] [] (hG τ sr ln Lc μ) rfl ?_
        rw [if_neg (show ¬ 40 ≤ (nI i) from (am_dnle (a := 40) (b := i) (rfl) (rfl) (by omega) (by omega) (by omega)))]
        refine am_g 2 22 [some (.ref 14), some (.ref (75 + m)), some (.ref 23), some (.ref 22), some (.int 40), some (.int (nI i)), w] [.int (nI i), .ref 22] (hG τ sr ln Lc μ) rfl ?_
        refine am_laldN (k := i) rfl (rfl) (hL2) (by omega) ?_
        refine am_g 5 12 [some (.ref 14), some (.ref (75 + m)), some (.ref 23), some (.ref 22), some (.int 40), some (.int ((nI i) + 1)), some (.null)] [] (hG τ sr ln Lc μ) rfl ?_
        rw [pu_ex_f (show pu_elP ln Lc (τ 12) m o i = false from by unfold pu_elP; rw [decide_eq_false (fun q => hL2 q.1)]; rfl), nI_up]
        exact ih (i + 1) _ (by omega)
  exact lp 40 0 none (by omega)
theorem sp_X11_isHeldElsewhere_v (d : Nat) (hsr : ∀ i, i < Lc → sr i < 6) (hwl : ∀ i, i < Lc → am_wl (sr i) (ln i)) (m : Nat) (hm : m < Lc) (hs : sr m = 5) {b : Bool} (eb : pu_ex (pu_elP ln Lc (τ 12) m (ln m 7).toNatClampNeg) 40 0 = b) : am_X xs LL (d + 2) 137 [.ref 14, .ref (75 + m), .ref 23] (hG τ sr ln Lc μ) (some (.int (am_b2 b))) (hG τ sr ln Lc μ) := by
  subst eb
  obtain ⟨o, ho, h7⟩ := (hwl m hm).2.2.2.2.2.2.2.2.1 hs
  rw [h7, nI_clamp (by omega)]
  exact sp_X11_isHeldElsewhere d hsr hwl m hm hs ho h7
theorem sp_X7_heldInFieldsOf (d : Nat) (m : Int32) : am_X xs LL (d + 3) 62 [.ref 23, .int m] (hG τ sr ln Lc μ) (some (.int (am_it (pu_hfS (τ 12) m) 0 16))) (hG τ sr ln Lc μ) := by
  refine am_XR (d := d + 2) (C := cd_X7_heldInFieldsOf) (L := [some (.ref 23), some (.int m), none, none, none]) rfl rfl rfl rfl ?_
  refine am_g 4 4 [some (.ref 23), some (.int m), some (.int 0), some (.int 0), none] [] (hG τ sr ln Lc μ) rfl ?_
  have lp : ∀ (r p : Nat) (w : Option Value), p + r = 16 → am_R xs LL cd_X7_heldInFieldsOf (am_X xs LL (d + 2)) 4 [some (.ref 23), some (.int m), some (.int (am_it (pu_hfS (τ 12) m) 0 p)), some (.int (nI p)), w] [] (hG τ sr ln Lc μ) (some (.int (am_it (pu_hfS (τ 12) m) 0 16))) (hG τ sr ln Lc μ) := by
    intro r
    induction r with
    | zero =>
      intro p w hi
      have hi2 : p = 16 := by omega
      rw [hi2]
      refine am_g 3 (if 16 ≤ (nI 16) then 52 else 10) [some (.ref 23), some (.int m), some (.int (am_it (pu_hfS (τ 12) m) 0 16)), some (.int (nI 16)), w] [] (hG τ sr ln Lc μ) rfl ?_
      rw [if_pos (show 16 ≤ (nI 16) from (am_dle (a := 16) (b := 16) (rfl) (rfl) (by omega) (by omega) (by omega)))]
      refine am_g 1 53 [some (.ref 23), some (.int m), some (.int (am_it (pu_hfS (τ 12) m) 0 16)), some (.int (nI 16)), w] [.int (am_it (pu_hfS (τ 12) m) 0 16)] (hG τ sr ln Lc μ) rfl ?_
      exact am_ret2 rfl rfl rfl rfl rfl
    | succ r ih =>
      intro p w hi
      have hi2 : p < 16 := by omega
      refine am_g 3 (if 16 ≤ (nI p) then 52 else 10) [some (.ref 23), some (.int m), some (.int (am_it (pu_hfS (τ 12) m) 0 p)), some (.int (nI p)), w] [] (hG τ sr ln Lc μ) rfl ?_
      rw [if_neg (show ¬ 16 ≤ (nI p) from (am_dnle (a := 16) (b := p) (rfl) (rfl) (by omega) (by omega) (by omega)))]
      refine am_g 7 21 [some (.ref 23), some (.int m), some (.int (am_it (pu_hfS (τ 12) m) 0 p)), some (.int (nI p)), some (.int 0)] [.int (nI p), .int m] (hG τ sr ln Lc μ) rfl ?_
      cases e1 : am_hb m p with
      | false =>
        refine am_call (y := 126) (vs := [.int m, .int (nI p)]) (rest := []) (v := (some (.int 0))) (h1 := (hG τ sr ln Lc μ)) rfl rfl rfl (sp_X11_hasBit (d + 1) _ _ _ e1) ?_
        refine am_g 3 4 [some (.ref 23), some (.int m), some (.int (am_it (pu_hfS (τ 12) m) 0 p)), some (.int ((nI p) + 1)), some (.int 0)] [] (hG τ sr ln Lc μ) rfl ?_
        rw [nI_up, ← (show am_it (pu_hfS (τ 12) m) 0 (p + 1) = (am_it (pu_hfS (τ 12) m) 0 p) from (by rw [am_itS]; unfold pu_hfS; rw [e1]; rfl))]
        exact ih (p + 1) _ (by omega)
      | true =>
        refine am_call (y := 126) (vs := [.int m, .int (nI p)]) (rest := []) (v := (some (.int 1))) (h1 := (hG τ sr ln Lc μ)) rfl rfl rfl (sp_X11_hasBit (d + 1) _ _ _ e1) ?_
        refine am_g 5 32 [some (.ref 23), some (.int m), some (.int (am_it (pu_hfS (τ 12) m) 0 p)), some (.int (nI p)), some (.int 0)] [.int 0, .int (nI p), .ref 23, .int (am_it (pu_hfS (τ 12) m) 0 p)] (hG τ sr ln Lc μ) rfl ?_
        refine am_call (y := 127) (vs := [.int (nI p), .int 0]) (rest := [.ref 23, .int (am_it (pu_hfS (τ 12) m) 0 p)]) (v := (some (.int (nI (20 + 3 * p + 0))))) (h1 := (hG τ sr ln Lc μ)) rfl rfl rfl (sp_X11_fieldPlace_v d p 0 _ _ rfl rfl (by omega) (by omega) _) ?_
        refine am_call (y := 56) (vs := [.ref 23, .int (nI (20 + 3 * p + 0))]) (rest := [.int (am_it (pu_hfS (τ 12) m) 0 p)]) (v := (some (.int (τ 12 (20 + 3 * p + 0))))) (h1 := (hG τ sr ln Lc μ)) rfl rfl rfl (sp_X7_heldAt_0_k (σ := τ) (μ := μ) (d + 1) (20 + 3 * p + 0) (by omega)) ?_
        refine am_g 9 21 [some (.ref 23), some (.int m), some (.int ((am_it (pu_hfS (τ 12) m) 0 p) ||| (τ 12 (20 + 3 * p + 0)))), some (.int (nI p)), some (.int 1)] [.int (nI p), .int m] (hG τ sr ln Lc μ) rfl ?_
        refine am_call (y := 126) (vs := [.int m, .int (nI p)]) (rest := []) (v := (some (.int 1))) (h1 := (hG τ sr ln Lc μ)) rfl rfl rfl (sp_X11_hasBit (d + 1) _ _ _ e1) ?_
        refine am_g 5 32 [some (.ref 23), some (.int m), some (.int ((am_it (pu_hfS (τ 12) m) 0 p) ||| (τ 12 (20 + 3 * p + 0)))), some (.int (nI p)), some (.int 1)] [.int 1, .int (nI p), .ref 23, .int ((am_it (pu_hfS (τ 12) m) 0 p) ||| (τ 12 (20 + 3 * p + 0)))] (hG τ sr ln Lc μ) rfl ?_
        refine am_call (y := 127) (vs := [.int (nI p), .int 1]) (rest := [.ref 23, .int ((am_it (pu_hfS (τ 12) m) 0 p) ||| (τ 12 (20 + 3 * p + 0)))]) (v := (some (.int (nI (20 + 3 * p + 1))))) (h1 := (hG τ sr ln Lc μ)) rfl rfl rfl (sp_X11_fieldPlace_v d p 1 _ _ rfl rfl (by omega) (by omega) _) ?_
        refine am_call (y := 56) (vs := [.ref 23, .int (nI (20 + 3 * p + 1))]) (rest := [.int ((am_it (pu_hfS (τ 12) m) 0 p) ||| (τ 12 (20 + 3 * p + 0)))]) (v := (some (.int (τ 12 (20 + 3 * p + 1))))) (h1 := (hG τ sr ln Lc μ)) rfl rfl rfl (sp_X7_heldAt_0_k (σ := τ) (μ := μ) (d + 1) (20 + 3 * p + 1) (by omega)) ?_
        refine am_g 9 21 [some (.ref 23), some (.int m), some (.int (((am_it (pu_hfS (τ 12) m) 0 p) ||| (τ 12 (20 + 3 * p + 0))) ||| (τ 12 (20 + 3 * p + 1)))), some (.int (nI p)), some (.int 2)] [.int (nI p), .int m] (hG τ sr ln Lc μ) rfl ?_
        refine am_call (y := 126) (vs := [.int m, .int (nI p)]) (rest := []) (v := (some (.int 1))) (h1 := (hG τ sr ln Lc μ)) rfl rfl rfl (sp_X11_hasBit (d + 1) _ _ _ e1) ?_
        refine am_g 5 32 [some (.ref 23), some (.int m), some (.int (((am_it (pu_hfS (τ 12) m) 0 p) ||| (τ 12 (20 + 3 * p + 0))) ||| (τ 12 (20 + 3 * p + 1)))), some (.int (nI p)), some (.int 2)] [.int 2, .int (nI p), .ref 23, .int (((am_it (pu_hfS (τ 12) m) 0 p) ||| (τ 12 (20 + 3 * p + 0))) ||| (τ 12 (20 + 3 * p + 1)))] (hG τ sr ln Lc μ) rfl ?_
        refine am_call (y := 127) (vs := [.int (nI p), .int 2]) (rest := [.ref 23, .int (((am_it (pu_hfS (τ 12) m) 0 p) ||| (τ 12 (20 + 3 * p + 0))) ||| (τ 12 (20 + 3 * p + 1)))]) (v := (some (.int (nI (20 + 3 * p + 2))))) (h1 := (hG τ sr ln Lc μ)) rfl rfl rfl (sp_X11_fieldPlace_v d p 2 _ _ rfl rfl (by omega) (by omega) _) ?_
        refine am_call (y := 56) (vs := [.ref 23, .int (nI (20 + 3 * p + 2))]) (rest := [.int (((am_it (pu_hfS (τ 12) m) 0 p) ||| (τ 12 (20 + 3 * p + 0))) ||| (τ 12 (20 + 3 * p + 1)))]) (v := (some (.int (τ 12 (20 + 3 * p + 2))))) (h1 := (hG τ sr ln Lc μ)) rfl rfl rfl (sp_X7_heldAt_0_k (σ := τ) (μ := μ) (d + 1) (20 + 3 * p + 2) (by omega)) ?_
        refine am_g 9 4 [some (.ref 23), some (.int m), some (.int ((((am_it (pu_hfS (τ 12) m) 0 p) ||| (τ 12 (20 + 3 * p + 0))) ||| (τ 12 (20 + 3 * p + 1))) ||| (τ 12 (20 + 3 * p + 2)))), some (.int ((nI p) + 1)), some (.int 3)] [] (hG τ sr ln Lc μ) rfl ?_
        rw [nI_up, ← (show am_it (pu_hfS (τ 12) m) 0 (p + 1) = ((((am_it (pu_hfS (τ 12) m) 0 p) ||| (τ 12 (20 + 3 * p + 0))) ||| (τ 12 (20 + 3 * p + 1))) ||| (τ 12 (20 + 3 * p + 2))) from (by rw [am_itS]; unfold pu_hfS; rw [e1]; rfl))]
        exact ih (p + 1) _ (by omega)
  exact lp 16 0 none (by omega)
theorem sp_X11_leaves (d : Nat) (hL : Lc ≤ 40) (hsr : ∀ i, i < Lc → sr i < 6) (hwl : ∀ i, i < Lc → am_wl (sr i) (ln i)) (hf : ∀ d, am_X xs LL (d + 6) 52 [.ref 23] (hG σ sr ln Lc μ) (some (.ref 23)) (hG τ sr ln Lc μ)) : am_X xs LL (d + 7) 111 [.ref 14] (hG σ sr ln Lc μ) (some (.int (am_it (pu_lfS (τ 12)) (am_it (pu_leS sr ln Lc (τ 12)) 0 40) 16))) (hG τ sr ln Lc μ) := by
  refine am_XR (d := d + 6) (C := cd_X11_leaves) (L := [some (.ref 14), none, none, none, none, none, none]) rfl rfl rfl rfl ?_
  refine am_g 2 4 [some (.ref 14), none, none, none, none, none, none] [.ref 23] (hG σ sr ln Lc μ) rfl ?_
  refine am_call (y := 52) (vs := [.ref 23]) (rest := []) (v := (some (.ref 23))) (h1 := (hG τ sr ln Lc μ)) rfl rfl rfl (hf d) ?_
  refine am_g 11 22 [some (.ref 14), some (.ref 23), some (.int 0), some (.ref 22), some (.int 40), some (.int 0), none] [] (hG τ sr ln Lc μ) rfl ?_
  have lpa : ∀ (ra i : Nat) (w : Option Value), i + ra = 40 → am_R xs LL cd_X11_leaves (am_X xs LL (d + 6)) 22 [some (.ref 14), some (.ref 23), some (.int (am_it (pu_leS sr ln Lc (τ 12)) 0 i)), some (.ref 22), some (.int 40), some (.int (nI i)), w] [] (hG τ sr ln Lc μ) (some (.int (am_it (pu_lfS (τ 12)) (am_it (pu_leS sr ln Lc (τ 12)) 0 40) 16))) (hG τ sr ln Lc μ) := by
    intro ra
    induction ra with
    | zero =>
      intro i w hia
      have hi2a : i = 40 := by omega
      rw [hi2a]
      refine am_g 3 (if 40 ≤ (nI 40) then 69 else 29) [some (.ref 14), some (.ref 23), some (.int (am_it (pu_leS sr ln Lc (τ 12)) 0 40)), some (.ref 22), some (.int 40), some (.int (nI 40)), w] [] (hG τ sr ln Lc μ) rfl ?_
      rw [if_pos (show 40 ≤ (nI 40) from (am_dle (a := 40) (b := 40) (rfl) (rfl) (by omega) (by omega) (by omega)))]
      refine am_g 2 71 [some (.ref 14), some (.ref 23), some (.int (am_it (pu_leS sr ln Lc (τ 12)) 0 40)), some (.int 0), some (.int 40), some (.int (nI 40)), w] [] (hG τ sr ln Lc μ) rfl ?_
      have lpb : ∀ (rb k : Nat) (w : Option Value), k + rb = 16 → am_R xs LL cd_X11_leaves (am_X xs LL (d + 6)) 71 [some (.ref 14), some (.ref 23), some (.int (am_it (pu_lfS (τ 12)) (am_it (pu_leS sr ln Lc (τ 12)) 0 40) k)), some (.int (nI k)), some (.int 40), some (.int 40), w] [] (hG τ sr ln Lc μ) (some (.int (am_it (pu_lfS (τ 12)) (am_it (pu_leS sr ln Lc (τ 12)) 0 40) 16))) (hG τ sr ln Lc μ) := by
        intro rb
        induction rb with
        | zero =>
          intro k w hib
          have hi2b : k = 16 := by omega
          rw [hi2b]
          refine am_g 3 (if 16 ≤ (nI 16) then 91 else 77) [some (.ref 14), some (.ref 23), some (.int (am_it (pu_lfS (τ 12)) (am_it (pu_leS sr ln Lc (τ 12)) 0 40) 16)), some (.int (nI 16)), some (.int 40), some (.int 40), w] [] (hG τ sr ln Lc μ) rfl ?_
          rw [if_pos (show 16 ≤ (nI 16) from (am_dle (a := 16) (b := 16) (rfl) (rfl) (by omega) (by omega) (by omega)))]
          refine am_g 1 92 [some (.ref 14), some (.ref 23), some (.int (am_it (pu_lfS (τ 12)) (am_it (pu_leS sr ln Lc (τ 12)) 0 40) 16)), some (.int (nI 16)), some (.int 40), some (.int 40), w] [.int (am_it (pu_lfS (τ 12)) (am_it (pu_leS sr ln Lc (τ 12)) 0 40) 16)] (hG τ sr ln Lc μ) rfl ?_
          exact am_ret2 rfl rfl rfl rfl rfl
        | succ rb ihb =>
          intro k w hib
          have hi2b : k < 16 := by omega
          refine am_g 3 (if 16 ≤ (nI k) then 91 else 77) [some (.ref 14), some (.ref 23), some (.int (am_it (pu_lfS (τ 12)) (am_it (pu_leS sr ln Lc (τ 12)) 0 40) k)), some (.int (nI k)), some (.int 40), some (.int 40), w] [] (hG τ sr ln Lc μ) rfl ?_
          rw [if_neg (show ¬ 16 ≤ (nI k) from (am_dnle (a := 16) (b := k) (rfl) (rfl) (by omega) (by omega) (by omega)))]
          refine am_g 3 80 [some (.ref 14), some (.ref 23), some (.int (am_it (pu_lfS (τ 12)) (am_it (pu_leS sr ln Lc (τ 12)) 0 40) k)), some (.int (nI k)), some (.int 40), some (.int 40), w] [.int (am_it (pu_lfS (τ 12)) (am_it (pu_leS sr ln Lc (τ 12)) 0 40) k), .ref 23, .int (am_it (pu_lfS (τ 12)) (am_it (pu_leS sr ln Lc (τ 12)) 0 40) k)] (hG τ sr ln Lc μ) rfl ?_
          refine am_call (y := 62) (vs := [.ref 23, .int (am_it (pu_lfS (τ 12)) (am_it (pu_leS sr ln Lc (τ 12)) 0 40) k)]) (rest := [.int (am_it (pu_lfS (τ 12)) (am_it (pu_leS sr ln Lc (τ 12)) 0 40) k)]) (v := (some (.int (am_it (pu_hfS (τ 12) (am_it (pu_lfS (τ 12)) (am_it (pu_leS sr ln Lc (τ 12)) 0 40) k)) 0 16)))) (h1 := (hG τ sr ln Lc μ)) rfl rfl rfl (sp_X7_heldInFieldsOf (d + 3) _) ?_
          refine am_g 4 71 [some (.ref 14), some (.ref 23), some (.int ((am_it (pu_lfS (τ 12)) (am_it (pu_leS sr ln Lc (τ 12)) 0 40) k) ||| (am_it (pu_hfS (τ 12) (am_it (pu_lfS (τ 12)) (am_it (pu_leS sr ln Lc (τ 12)) 0 40) k)) 0 16))), some (.int ((nI k) + 1)), some (.int 40), some (.int 40), w] [] (hG τ sr ln Lc μ) rfl ?_
          rw [nI_up, ← (show (am_it (pu_lfS (τ 12)) (am_it (pu_leS sr ln Lc (τ 12)) 0 40) (k + 1)) = ((am_it (pu_lfS (τ 12)) (am_it (pu_leS sr ln Lc (τ 12)) 0 40) k) ||| (am_it (pu_hfS (τ 12) (am_it (pu_lfS (τ 12)) (am_it (pu_leS sr ln Lc (τ 12)) 0 40) k)) 0 16)) from rfl)]
          exact ihb (k + 1) _ (by omega)
      exact lpb 16 0 _ (by omega)
    | succ ra iha =>
      intro i w hia
      have hi2a : i < 40 := by omega
      by_cases hL2 : i < Lc
      · skip
        refine am_g 3 (if 40 ≤ (nI i) then 69 else 29) [some (.ref 14), some (.ref 23), some (.int (am_it (pu_leS sr ln Lc (τ 12)) 0 i)), some (.ref 22), some (.int 40), some (.int (nI i)), w] [] (hG τ sr ln Lc μ) rfl ?_
        rw [if_neg (show ¬ 40 ≤ (nI i) from (am_dnle (a := 40) (b := i) (rfl) (rfl) (by omega) (by omega) (by omega)))]
        refine am_g 2 32 [some (.ref 14), some (.ref 23), some (.int (am_it (pu_leS sr ln Lc (τ 12)) 0 i)), some (.ref 22), some (.int 40), some (.int (nI i)), w] [.int (nI i), .ref 22] (hG τ sr ln Lc μ) rfl ?_
        refine am_laldR (k := i) rfl (rfl) (hL2) (by omega) ?_
        refine am_g 2 37 [some (.ref 14), some (.ref 23), some (.int (am_it (pu_leS sr ln Lc (τ 12)) 0 i)), some (.ref 22), some (.int 40), some (.int (nI i)), some (.ref (75 + i))] [.ref (75 + i)] (hG τ sr ln Lc μ) rfl ?_
        refine am_linsR (i := i) (b := [false, false, false, false, false, true].getD (sr i) false) rfl hL2 (am_lk (f := fun s => bif [false, false, false, false, false, true].getD s false then 1 else 0) (by decide) (hsr _ hL2)) ?_
        cases e1 : [false, false, false, false, false, true].getD (sr i) false with
        | false =>
          refine am_g 3 22 [some (.ref 14), some (.ref 23), some (.int (am_it (pu_leS sr ln Lc (τ 12)) 0 i)), some (.ref 22), some (.int 40), some (.int ((nI i) + 1)), some (.ref (75 + i))] [] (hG τ sr ln Lc μ) rfl ?_
          have qq : am_it (pu_leS sr ln Lc (τ 12)) 0 (i + 1) = (am_it (pu_leS sr ln Lc (τ 12)) 0 i) := by
            rw [am_itS]
            exact (if_pos hL2).trans (if_neg (of_decide_eq_false ((pu_ins5 (hsr i hL2)).symm.trans e1)))
          rw [nI_up, ← qq]
          exact iha (i + 1) _ (by omega)
        | true =>
          refine am_g 1 43 [some (.ref 14), some (.ref 23), some (.int (am_it (pu_leS sr ln Lc (τ 12)) 0 i)), some (.ref 22), some (.int 40), some (.int (nI i)), some (.ref (75 + i))] [] (hG τ sr ln Lc μ) rfl ?_
          have e5 : sr i = 5 := of_decide_eq_true ((pu_ins5 (hsr i hL2)).symm.trans e1)
          refine am_g 3 47 [some (.ref 14), some (.ref 23), some (.int (am_it (pu_leS sr ln Lc (τ 12)) 0 i)), some (.ref 22), some (.int 40), some (.int (nI i)), some (.ref (75 + i))] [.ref 23, .ref (75 + i), .ref 14] (hG τ sr ln Lc μ) rfl ?_
          cases e2 : pu_ex (pu_elP ln Lc (τ 12) i (ln i 7).toNatClampNeg) 40 0 with
          | false =>
            refine am_call (y := 137) (vs := [.ref 14, .ref (75 + i), .ref 23]) (rest := []) (v := (some (.int 0))) (h1 := (hG τ sr ln Lc μ)) rfl rfl rfl (sp_X11_isHeldElsewhere_v (d + 4) hsr hwl i hL2 e5 e2) ?_
            refine am_g 3 22 [some (.ref 14), some (.ref 23), some (.int (am_it (pu_leS sr ln Lc (τ 12)) 0 i)), some (.ref 22), some (.int 40), some (.int ((nI i) + 1)), some (.ref (75 + i))] [] (hG τ sr ln Lc μ) rfl ?_
            have qq : am_it (pu_leS sr ln Lc (τ 12)) 0 (i + 1) = (am_it (pu_leS sr ln Lc (τ 12)) 0 i) := by
              rw [am_itS]
              exact (if_pos hL2).trans ((if_pos e5).trans (by rw [e2]; rfl))
            rw [nI_up, ← qq]
            exact iha (i + 1) _ (by omega)
          | true =>
            refine am_call (y := 137) (vs := [.ref 14, .ref (75 + i), .ref 23]) (rest := []) (v := (some (.int 1))) (h1 := (hG τ sr ln Lc μ)) rfl rfl rfl (sp_X11_isHeldElsewhere_v (d + 4) hsr hwl i hL2 e5 e2) ?_
            refine am_g 4 57 [some (.ref 14), some (.ref 23), some (.int (am_it (pu_leS sr ln Lc (τ 12)) 0 i)), some (.ref 22), some (.int 40), some (.int (nI i)), some (.ref (75 + i))] [.ref (75 + i), .int 1, .int (am_it (pu_leS sr ln Lc (τ 12)) 0 i)] (hG τ sr ln Lc μ) rfl ?_
            refine am_call (y := ([16, 16, 16, 16, 16, 42].getD (sr i) 0)) (vs := [.ref (75 + i)]) (rest := [.int 1, .int (am_it (pu_leS sr ln Lc (τ 12)) 0 i)]) (v := (some (.int (ln i 7)))) (h1 := (hG τ sr ln Lc μ)) rfl rfl (am_tgtL (i := i) rfl rfl hL2 (am_lk (f := fun s => [16, 16, 16, 16, 16, 42].getD s 0) (by decide) (hsr _ hL2)) rfl rfl) ((by have k := sp_v_object (σ := τ) (μ := μ) (xs := xs) (LL := LL) (sr := sr) (ln := ln) (d + 5) i hL2 (hsr i hL2); rw [if_pos e5] at k; exact k)) ?_
            refine am_g 5 22 [some (.ref 14), some (.ref 23), some (.int ((am_it (pu_leS sr ln Lc (τ 12)) 0 i) ||| (1 <<< ((ln i 7) &&& 31)))), some (.ref 22), some (.int 40), some (.int ((nI i) + 1)), some (.ref (75 + i))] [] (hG τ sr ln Lc μ) rfl ?_
            have qq : am_it (pu_leS sr ln Lc (τ 12)) 0 (i + 1) = ((am_it (pu_leS sr ln Lc (τ 12)) 0 i) ||| (1 <<< ((ln i 7) &&& 31))) := by
              rw [am_itS]
              exact (if_pos hL2).trans ((if_pos e5).trans (by rw [e2]; rfl))
            rw [nI_up, ← qq]
            exact iha (i + 1) _ (by omega)
      · skip
        refine am_g 3 (if 40 ≤ (nI i) then 69 else 29) [some (.ref 14), some (.ref 23), some (.int (am_it (pu_leS sr ln Lc (τ 12)) 0 i)), some (.ref 22), some (.int 40), some (.int (nI i)), w] [] (hG τ sr ln Lc μ) rfl ?_
        rw [if_neg (show ¬ 40 ≤ (nI i) from (am_dnle (a := 40) (b := i) (rfl) (rfl) (by omega) (by omega) (by omega)))]
        refine am_g 2 32 [some (.ref 14), some (.ref 23), some (.int (am_it (pu_leS sr ln Lc (τ 12)) 0 i)), some (.ref 22), some (.int 40), some (.int (nI i)), w] [.int (nI i), .ref 22] (hG τ sr ln Lc μ) rfl ?_
        refine am_laldN (k := i) rfl (rfl) (hL2) (by omega) ?_
        refine am_g 6 22 [some (.ref 14), some (.ref 23), some (.int (am_it (pu_leS sr ln Lc (τ 12)) 0 i)), some (.ref 22), some (.int 40), some (.int ((nI i) + 1)), some (.null)] [] (hG τ sr ln Lc μ) rfl ?_
        have qq : am_it (pu_leS sr ln Lc (τ 12)) 0 (i + 1) = (am_it (pu_leS sr ln Lc (τ 12)) 0 i) := by
          rw [am_itS]
          exact if_neg hL2
        rw [nI_up, ← qq]
        exact iha (i + 1) _ (by omega)
  exact lpa 40 0 none (by omega)
def pu_lmP (ln : Nat → Nat → Int32) (H : Nat → Int32) (m o l : Nat) : Bool := decide (¬ ln l 6 = 0 ∧ ¬ ln l 5 = ln m 5) && am_hb (am_hat H (ln l 0)) o
def pu_lmS (ln : Nat → Nat → Int32) (H : Nat → Int32) (m o l : Nat) (a : Int32) : Int32 := bif pu_lmP ln H m o l then a ||| 1 <<< (nI o &&& 31) else a
def pu_loS (ln : Nat → Nat → Int32) (H : Nat → Int32) (mk : Nat → Nat) (Lc o : Nat) (a : Int32) : Int32 := am_it (pu_lmS ln H (mk o) o) a Lc
def pu_lgF (H : Nat → Int32) (O : Nat) (a : Int32) : Int32 := am_it (pu_hfS H a) a O
theorem sp_X12_leaves_0 (d : Nat) (hL40 : Lc ≤ 40) (hsr : ∀ i, i < Lc → sr i < 6) (hwl : ∀ i, i < Lc → am_wl (sr i) (ln i)) (hRL : am_RL sr ln Lc ν) (hO : ν 19 0 = nI O) (hO16 : O ≤ 16) (mk : Nat → Nat) (hmk : ∀ o, o < O → ν 18 o = nI (mk o) ∧ mk o < Lc) (h0 : (am_it (pu_loS ln (ν 24) mk Lc) 0 O) = 0) (hw : ∀ d, am_X xs LL (d + 6) 173 [.ref 47, .int 0, .int (-1)] (hG σ sr ln Lc μ) none (hG σ sr ln Lc ν)) : am_X xs LL (d + 7) 191 [.ref 47] (hG σ sr ln Lc μ) (some (.int 0)) (hG σ sr ln Lc ν) := by
  refine am_XR (d := d + 6) (C := cd_X12_leaves) (L := [some (.ref 47), none, none, none, none]) rfl rfl rfl rfl ?_
  refine am_g 3 3 [some (.ref 47), none, none, none, none] [.int (-1), .int 0, .ref 47] (hG σ sr ln Lc μ) rfl ?_
  refine am_call (y := 173) (vs := [.ref 47, .int 0, .int (-1)]) (rest := []) (v := none) (h1 := (hG σ sr ln Lc ν)) rfl rfl rfl (hw d) ?_
  refine am_g 4 10 [some (.ref 47), some (.int 0), some (.int 0), none, none] [] (hG σ sr ln Lc ν) rfl ?_
  have lpa : ∀ (ra o : Nat) (w : Option Value) (w2 : Option Value), o + ra = O → am_R xs LL cd_X12_leaves (am_X xs LL (d + 6)) 10 [some (.ref 47), some (.int (am_it (pu_loS ln (ν 24) mk Lc) 0 o)), some (.int (nI o)), w, w2] [] (hG σ sr ln Lc ν) (some (.int 0)) (hG σ sr ln Lc ν) := by
    intro ra
    induction ra with
    | zero =>
      intro o w w2 hia
      have hi2a : o = O := by omega
      rw [hi2a]
      refine am_g 3 15 [some (.ref 47), some (.int (am_it (pu_loS ln (ν 24) mk Lc) 0 O)), some (.int (nI O)), w, w2] [.int (ν 19 0), .int (nI O)] (hG σ sr ln Lc ν) rfl ?_
      rw [show (ν 19 0) = (nI O) from hO]
      refine am_g 1 (if (nI O) ≤ (nI O) then 98 else 18) [some (.ref 47), some (.int (am_it (pu_loS ln (ν 24) mk Lc) 0 O)), some (.int (nI O)), w, w2] [] (hG σ sr ln Lc ν) rfl ?_
      rw [if_pos (show (nI O) ≤ (nI O) from (am_dle (a := O) (b := O) (rfl) (rfl) (by omega) (by omega) (by omega)))]
      refine am_g 2 100 [some (.ref 47), some (.int (am_it (pu_loS ln (ν 24) mk Lc) 0 O)), some (.int 0), w, w2] [] (hG σ sr ln Lc ν) rfl ?_
      refine am_g 3 (if 0 = (am_it (pu_loS ln (ν 24) mk Lc) 0 O) then 164 else 105) [some (.ref 47), some (.int (am_it (pu_loS ln (ν 24) mk Lc) 0 O)), some (.int 0), w, w2] [] (hG σ sr ln Lc ν) rfl ?_
      rw [if_pos (show 0 = (am_it (pu_loS ln (ν 24) mk Lc) 0 O) from h0.symm)]
      refine am_g 1 165 [some (.ref 47), some (.int (am_it (pu_loS ln (ν 24) mk Lc) 0 O)), some (.int 0), w, w2] [.int (am_it (pu_loS ln (ν 24) mk Lc) 0 O)] (hG σ sr ln Lc ν) rfl ?_
      exact am_ret2 rfl rfl rfl (by rw [h0]) rfl
    | succ ra iha =>
      intro o w w2 hia
      have hi2a : o < O := by omega
      refine am_g 3 15 [some (.ref 47), some (.int (am_it (pu_loS ln (ν 24) mk Lc) 0 o)), some (.int (nI o)), w, w2] [.int (ν 19 0), .int (nI o)] (hG σ sr ln Lc ν) rfl ?_
      rw [show (ν 19 0) = (nI O) from hO]
      refine am_g 1 (if (nI O) ≤ (nI o) then 98 else 18) [some (.ref 47), some (.int (am_it (pu_loS ln (ν 24) mk Lc) 0 o)), some (.int (nI o)), w, w2] [] (hG σ sr ln Lc ν) rfl ?_
      rw [if_neg (show ¬ (nI O) ≤ (nI o) from (am_dnle (a := O) (b := o) (rfl) (rfl) (by omega) (by omega) (by omega)))]
      refine am_g 2 20 [some (.ref 47), some (.int (am_it (pu_loS ln (ν 24) mk Lc) 0 o)), some (.int (nI o)), some (.int 0), w2] [] (hG σ sr ln Lc ν) rfl ?_
      have lpb : ∀ (rb l : Nat), l + rb = Lc → am_R xs LL cd_X12_leaves (am_X xs LL (d + 6)) 20 [some (.ref 47), some (.int (am_it (pu_lmS ln (ν 24) (mk o) o) (am_it (pu_loS ln (ν 24) mk Lc) 0 o) l)), some (.int (nI o)), some (.int (nI l)), w2] [] (hG σ sr ln Lc ν) (some (.int 0)) (hG σ sr ln Lc ν) := by
        intro rb
        induction rb with
        | zero =>
          intro l  hib
          have hi2b : l = Lc := by omega
          rw [hi2b]
          refine am_g 3 25 [some (.ref 47), some (.int (am_it (pu_lmS ln (ν 24) (mk o) o) (am_it (pu_loS ln (ν 24) mk Lc) 0 o) Lc)), some (.int (nI o)), some (.int (nI Lc)), w2] [.int (ν 17 0), .int (nI Lc)] (hG σ sr ln Lc ν) rfl ?_
          rw [show (ν 17 0) = (nI Lc) from hRL.1]
          refine am_g 1 (if (nI Lc) ≤ (nI Lc) then 92 else 28) [some (.ref 47), some (.int (am_it (pu_lmS ln (ν 24) (mk o) o) (am_it (pu_loS ln (ν 24) mk Lc) 0 o) Lc)), some (.int (nI o)), some (.int (nI Lc)), w2] [] (hG σ sr ln Lc ν) rfl ?_
          rw [if_pos (show (nI Lc) ≤ (nI Lc) from (am_dle (a := Lc) (b := Lc) (rfl) (rfl) (by omega) (by omega) (by omega)))]
          refine am_g 2 10 [some (.ref 47), some (.int (am_it (pu_lmS ln (ν 24) (mk o) o) (am_it (pu_loS ln (ν 24) mk Lc) 0 o) Lc)), some (.int ((nI o) + 1)), some (.int (nI Lc)), w2] [] (hG σ sr ln Lc ν) rfl ?_
          rw [nI_up, ← (show (am_it (pu_loS ln (ν 24) mk Lc) 0 (o + 1)) = (am_it (pu_lmS ln (ν 24) (mk o) o) (am_it (pu_loS ln (ν 24) mk Lc) 0 o) Lc) from rfl)]
          exact iha (o + 1) _ _ (by omega)
        | succ rb ihb =>
          intro l  hib
          have hi2b : l < Lc := by omega
          refine am_g 3 25 [some (.ref 47), some (.int (am_it (pu_lmS ln (ν 24) (mk o) o) (am_it (pu_loS ln (ν 24) mk Lc) 0 o) l)), some (.int (nI o)), some (.int (nI l)), w2] [.int (ν 17 0), .int (nI l)] (hG σ sr ln Lc ν) rfl ?_
          rw [show (ν 17 0) = (nI Lc) from hRL.1]
          refine am_g 1 (if (nI Lc) ≤ (nI l) then 92 else 28) [some (.ref 47), some (.int (am_it (pu_lmS ln (ν 24) (mk o) o) (am_it (pu_loS ln (ν 24) mk Lc) 0 o) l)), some (.int (nI o)), some (.int (nI l)), w2] [] (hG σ sr ln Lc ν) rfl ?_
          rw [if_neg (show ¬ (nI Lc) ≤ (nI l) from (am_dnle (a := Lc) (b := l) (rfl) (rfl) (by omega) (by omega) (by omega)))]
          obtain ⟨x, hx20, hx⟩ := (hwl l hi2b).1
          refine am_g 4 34 [some (.ref 47), some (.int (am_it (pu_lmS ln (ν 24) (mk o) o) (am_it (pu_loS ln (ν 24) mk Lc) 0 o) l)), some (.int (nI o)), some (.int (nI l)), w2] [.int (nI l), .ref 60, .int (am_it (pu_lmS ln (ν 24) (mk o) o) (am_it (pu_loS ln (ν 24) mk Lc) 0 o) l)] (hG σ sr ln Lc ν) rfl ?_
          refine am_baldV (n := 40) (f := (ν 14)) (k := l) (w := (ln l 6)) rfl rfl (rfl) (by omega) (by decide) (hRL.2.2.2.2.2.2.2.2.1 l hi2b) ?_
          refine am_g 1 (if (ln l 6) = 0 then 83 else 38) [some (.ref 47), some (.int (am_it (pu_lmS ln (ν 24) (mk o) o) (am_it (pu_loS ln (ν 24) mk Lc) 0 o) l)), some (.int (nI o)), some (.int (nI l)), w2] [.int (am_it (pu_lmS ln (ν 24) (mk o) o) (am_it (pu_loS ln (ν 24) mk Lc) 0 o) l)] (hG σ sr ln Lc ν) rfl (am_brR (fun c1 => ?_) (fun c1 => ?_))
          · skip
            refine am_g 5 20 [some (.ref 47), some (.int ((am_it (pu_lmS ln (ν 24) (mk o) o) (am_it (pu_loS ln (ν 24) mk Lc) 0 o) l) ||| 0)), some (.int (nI o)), some (.int ((nI l) + 1)), w2] [] (hG σ sr ln Lc ν) rfl ?_
            have qq : (am_it (pu_lmS ln (ν 24) (mk o) o) (am_it (pu_loS ln (ν 24) mk Lc) 0 o) (l + 1)) = ((am_it (pu_lmS ln (ν 24) (mk o) o) (am_it (pu_loS ln (ν 24) mk Lc) 0 o) l) ||| 0) := by
              rw [am_itS]
              unfold pu_lmS pu_lmP; rw [decide_eq_false (fun q => q.1 c1)]; exact (am_or0 _).symm
            rw [nI_up, ← qq]
            exact ihb (l + 1) (by omega)
          · skip
            refine am_g 3 43 [some (.ref 47), some (.int (am_it (pu_lmS ln (ν 24) (mk o) o) (am_it (pu_loS ln (ν 24) mk Lc) 0 o) l)), some (.int (nI o)), some (.int (nI l)), w2] [.int (nI l), .ref 61, .int (am_it (pu_lmS ln (ν 24) (mk o) o) (am_it (pu_loS ln (ν 24) mk Lc) 0 o) l)] (hG σ sr ln Lc ν) rfl ?_
            refine am_ialdV (n := 40) (f := (ν 15)) (k := l) (w := (ln l 5)) rfl rfl (rfl) (by omega) (by decide) (hRL.2.2.2.2.2.2.2.2.2.1 l hi2b) ?_
            refine am_g 5 53 [some (.ref 47), some (.int (am_it (pu_lmS ln (ν 24) (mk o) o) (am_it (pu_loS ln (ν 24) mk Lc) 0 o) l)), some (.int (nI o)), some (.int (nI l)), w2] [.int (nI o), .ref 63, .ref 61, .int (ln l 5), .int (am_it (pu_lmS ln (ν 24) (mk o) o) (am_it (pu_loS ln (ν 24) mk Lc) 0 o) l)] (hG σ sr ln Lc ν) rfl ?_
            refine am_ialdV (n := 16) (f := (ν 18)) (k := o) (w := (nI (mk o))) rfl rfl (rfl) (by omega) (by decide) ((hmk o hi2a).1) ?_
            refine am_ialdV (n := 40) (f := (ν 15)) (k := (mk o)) (w := (ln (mk o) 5)) rfl rfl (rfl) (by have := (hmk o hi2a).2; omega) (by decide) (hRL.2.2.2.2.2.2.2.2.2.1 (mk o) (hmk o hi2a).2) ?_
            refine am_g 1 (if (ln l 5) = (ln (mk o) 5) then 83 else 58) [some (.ref 47), some (.int (am_it (pu_lmS ln (ν 24) (mk o) o) (am_it (pu_loS ln (ν 24) mk Lc) 0 o) l)), some (.int (nI o)), some (.int (nI l)), w2] [.int (am_it (pu_lmS ln (ν 24) (mk o) o) (am_it (pu_loS ln (ν 24) mk Lc) 0 o) l)] (hG σ sr ln Lc ν) rfl (am_brR (fun c2 => ?_) (fun c2 => ?_))
            · skip
              refine am_g 5 20 [some (.ref 47), some (.int ((am_it (pu_lmS ln (ν 24) (mk o) o) (am_it (pu_loS ln (ν 24) mk Lc) 0 o) l) ||| 0)), some (.int (nI o)), some (.int ((nI l) + 1)), w2] [] (hG σ sr ln Lc ν) rfl ?_
              have qq : (am_it (pu_lmS ln (ν 24) (mk o) o) (am_it (pu_loS ln (ν 24) mk Lc) 0 o) (l + 1)) = ((am_it (pu_lmS ln (ν 24) (mk o) o) (am_it (pu_loS ln (ν 24) mk Lc) 0 o) l) ||| 0) := by
                rw [am_itS]
                unfold pu_lmS pu_lmP; rw [decide_eq_false (fun q => q.2 c2)]; exact (am_or0 _).symm
              rw [nI_up, ← qq]
              exact ihb (l + 1) (by omega)
            · skip
              refine am_g 5 67 [some (.ref 47), some (.int (am_it (pu_lmS ln (ν 24) (mk o) o) (am_it (pu_loS ln (ν 24) mk Lc) 0 o) l)), some (.int (nI o)), some (.int (nI l)), w2] [.int (nI l), .ref 54, .ref 65, .int (am_it (pu_lmS ln (ν 24) (mk o) o) (am_it (pu_loS ln (ν 24) mk Lc) 0 o) l)] (hG σ sr ln Lc ν) rfl ?_
              refine am_ialdV (n := 40) (f := (ν 8)) (k := l) (w := (nI x)) rfl rfl (rfl) (by omega) (by decide) ((hRL.2.2.1 l hi2b).trans hx) ?_
              refine am_ialdR (n := 68) (f := (ν 24)) (k := x) rfl rfl (rfl) (by omega) (by decide) ?_
              refine am_g 6 (if (((ν 24 x) >>> ((nI o) &&& 31)) &&& 1) = 1 then 77 else 83) [some (.ref 47), some (.int (am_it (pu_lmS ln (ν 24) (mk o) o) (am_it (pu_loS ln (ν 24) mk Lc) 0 o) l)), some (.int (nI o)), some (.int (nI l)), w2] [.int (am_it (pu_lmS ln (ν 24) (mk o) o) (am_it (pu_loS ln (ν 24) mk Lc) 0 o) l)] (hG σ sr ln Lc ν) rfl (am_brR (fun c3 => ?_) (fun c3 => ?_))
              · skip
                refine am_g 8 20 [some (.ref 47), some (.int ((am_it (pu_lmS ln (ν 24) (mk o) o) (am_it (pu_loS ln (ν 24) mk Lc) 0 o) l) ||| (1 <<< ((nI o) &&& 31)))), some (.int (nI o)), some (.int ((nI l) + 1)), w2] [] (hG σ sr ln Lc ν) rfl ?_
                have qq : (am_it (pu_lmS ln (ν 24) (mk o) o) (am_it (pu_loS ln (ν 24) mk Lc) 0 o) (l + 1)) = ((am_it (pu_lmS ln (ν 24) (mk o) o) (am_it (pu_loS ln (ν 24) mk Lc) 0 o) l) ||| (1 <<< ((nI o) &&& 31))) := by
                  rw [am_itS]
                  unfold pu_lmS pu_lmP; rw [decide_eq_true ⟨c1, c2⟩, hx, am_hat_nI (by omega), show am_hb (ν 24 x) o = true from decide_eq_true c3]; rfl
                rw [nI_up, ← qq]
                exact ihb (l + 1) (by omega)
              · skip
                refine am_g 5 20 [some (.ref 47), some (.int ((am_it (pu_lmS ln (ν 24) (mk o) o) (am_it (pu_loS ln (ν 24) mk Lc) 0 o) l) ||| 0)), some (.int (nI o)), some (.int ((nI l) + 1)), w2] [] (hG σ sr ln Lc ν) rfl ?_
                have qq : (am_it (pu_lmS ln (ν 24) (mk o) o) (am_it (pu_loS ln (ν 24) mk Lc) 0 o) (l + 1)) = ((am_it (pu_lmS ln (ν 24) (mk o) o) (am_it (pu_loS ln (ν 24) mk Lc) 0 o) l) ||| 0) := by
                  rw [am_itS]
                  unfold pu_lmS pu_lmP; rw [hx, am_hat_nI (by omega), show am_hb (ν 24 x) o = false from decide_eq_false c3, Bool.and_false]; exact (am_or0 _).symm
                rw [nI_up, ← qq]
                exact ihb (l + 1) (by omega)
      exact lpb Lc 0 (by omega)
  exact lpa O 0 none none (by omega)
theorem sp_X12_leaves_k (d : Nat) (hL40 : Lc ≤ 40) (hsr : ∀ i, i < Lc → sr i < 6) (hwl : ∀ i, i < Lc → am_wl (sr i) (ln i)) (hRL : am_RL sr ln Lc ν) (hO : ν 19 0 = nI O) (hO16 : O ≤ 16) (mk : Nat → Nat) (hmk : ∀ o, o < O → ν 18 o = nI (mk o) ∧ mk o < Lc) (k : Nat) (hrun : ∀ r, r ≤ k → ¬ (am_bfr (fun _ a => pu_lgF (ν 24) O a) (am_it (pu_loS ln (ν 24) mk Lc) 0 O) r) = (am_it (fun _ a => pu_lgF (ν 24) O a) (am_it (pu_loS ln (ν 24) mk Lc) 0 O) r)) (hk : (am_it (fun _ a => pu_lgF (ν 24) O a) (am_it (pu_loS ln (ν 24) mk Lc) 0 O) (k + 1)) = (am_it (fun _ a => pu_lgF (ν 24) O a) (am_it (pu_loS ln (ν 24) mk Lc) 0 O) k)) (hw : ∀ d, am_X xs LL (d + 6) 173 [.ref 47, .int 0, .int (-1)] (hG σ sr ln Lc μ) none (hG σ sr ln Lc ν)) : am_X xs LL (d + 7) 191 [.ref 47] (hG σ sr ln Lc μ) (some (.int (am_it (fun _ a => pu_lgF (ν 24) O a) (am_it (pu_loS ln (ν 24) mk Lc) 0 O) k))) (hG σ sr ln Lc ν) := by
  refine am_XR (d := d + 6) (C := cd_X12_leaves) (L := [some (.ref 47), none, none, none, none]) rfl rfl rfl rfl ?_
  refine am_g 3 3 [some (.ref 47), none, none, none, none] [.int (-1), .int 0, .ref 47] (hG σ sr ln Lc μ) rfl ?_
  refine am_call (y := 173) (vs := [.ref 47, .int 0, .int (-1)]) (rest := []) (v := none) (h1 := (hG σ sr ln Lc ν)) rfl rfl rfl (hw d) ?_
  refine am_g 4 10 [some (.ref 47), some (.int 0), some (.int 0), none, none] [] (hG σ sr ln Lc ν) rfl ?_
  have lpa : ∀ (ra o : Nat) (w : Option Value) (w2 : Option Value), o + ra = O → am_R xs LL cd_X12_leaves (am_X xs LL (d + 6)) 10 [some (.ref 47), some (.int (am_it (pu_loS ln (ν 24) mk Lc) 0 o)), some (.int (nI o)), w, w2] [] (hG σ sr ln Lc ν) (some (.int (am_it (fun _ a => pu_lgF (ν 24) O a) (am_it (pu_loS ln (ν 24) mk Lc) 0 O) k))) (hG σ sr ln Lc ν) := by
    intro ra
    induction ra with
    | zero =>
      intro o w w2 hia
      have hi2a : o = O := by omega
      rw [hi2a]
      refine am_g 3 15 [some (.ref 47), some (.int (am_it (pu_loS ln (ν 24) mk Lc) 0 O)), some (.int (nI O)), w, w2] [.int (ν 19 0), .int (nI O)] (hG σ sr ln Lc ν) rfl ?_
      rw [show (ν 19 0) = (nI O) from hO]
      refine am_g 1 (if (nI O) ≤ (nI O) then 98 else 18) [some (.ref 47), some (.int (am_it (pu_loS ln (ν 24) mk Lc) 0 O)), some (.int (nI O)), w, w2] [] (hG σ sr ln Lc ν) rfl ?_
      rw [if_pos (show (nI O) ≤ (nI O) from (am_dle (a := O) (b := O) (rfl) (rfl) (by omega) (by omega) (by omega)))]
      refine am_g 2 100 [some (.ref 47), some (.int (am_it (pu_loS ln (ν 24) mk Lc) 0 O)), some (.int 0), w, w2] [] (hG σ sr ln Lc ν) rfl ?_
      have lpw : ∀ (q r : Nat) (w w2 : Option Value), r + q = k + 1 → am_R xs LL cd_X12_leaves (am_X xs LL (d + 6)) 100 [some (.ref 47), some (.int (am_it (fun _ a => pu_lgF (ν 24) O a) (am_it (pu_loS ln (ν 24) mk Lc) 0 O) r)), some (.int (am_bfr (fun _ a => pu_lgF (ν 24) O a) (am_it (pu_loS ln (ν 24) mk Lc) 0 O) r)), w, w2] [] (hG σ sr ln Lc ν) (some (.int (am_it (fun _ a => pu_lgF (ν 24) O a) (am_it (pu_loS ln (ν 24) mk Lc) 0 O) k))) (hG σ sr ln Lc ν) := by
        intro q
        induction q with
        | zero =>
          intro r w w2 hr
          have hr2 : r = k + 1 := by omega
          rw [hr2]
          refine am_g 3 (if (am_bfr (fun _ a => pu_lgF (ν 24) O a) (am_it (pu_loS ln (ν 24) mk Lc) 0 O) (k + 1)) = (am_it (fun _ a => pu_lgF (ν 24) O a) (am_it (pu_loS ln (ν 24) mk Lc) 0 O) (k + 1)) then 164 else 105) [some (.ref 47), some (.int (am_it (fun _ a => pu_lgF (ν 24) O a) (am_it (pu_loS ln (ν 24) mk Lc) 0 O) (k + 1))), some (.int (am_bfr (fun _ a => pu_lgF (ν 24) O a) (am_it (pu_loS ln (ν 24) mk Lc) 0 O) (k + 1))), w, w2] [] (hG σ sr ln Lc ν) rfl ?_
          rw [if_pos (show (am_bfr (fun _ a => pu_lgF (ν 24) O a) (am_it (pu_loS ln (ν 24) mk Lc) 0 O) (k + 1)) = (am_it (fun _ a => pu_lgF (ν 24) O a) (am_it (pu_loS ln (ν 24) mk Lc) 0 O) (k + 1)) from hk.symm)]
          refine am_g 1 165 [some (.ref 47), some (.int (am_it (fun _ a => pu_lgF (ν 24) O a) (am_it (pu_loS ln (ν 24) mk Lc) 0 O) (k + 1))), some (.int (am_bfr (fun _ a => pu_lgF (ν 24) O a) (am_it (pu_loS ln (ν 24) mk Lc) 0 O) (k + 1))), w, w2] [.int (am_it (fun _ a => pu_lgF (ν 24) O a) (am_it (pu_loS ln (ν 24) mk Lc) 0 O) (k + 1))] (hG σ sr ln Lc ν) rfl ?_
          exact am_ret2 rfl rfl rfl (by rw [hk]) rfl
        | succ q ihw =>
          intro r w w2 hr
          have hr2 : r ≤ k := by omega
          refine am_g 3 (if (am_bfr (fun _ a => pu_lgF (ν 24) O a) (am_it (pu_loS ln (ν 24) mk Lc) 0 O) r) = (am_it (fun _ a => pu_lgF (ν 24) O a) (am_it (pu_loS ln (ν 24) mk Lc) 0 O) r) then 164 else 105) [some (.ref 47), some (.int (am_it (fun _ a => pu_lgF (ν 24) O a) (am_it (pu_loS ln (ν 24) mk Lc) 0 O) r)), some (.int (am_bfr (fun _ a => pu_lgF (ν 24) O a) (am_it (pu_loS ln (ν 24) mk Lc) 0 O) r)), w, w2] [] (hG σ sr ln Lc ν) rfl ?_
          rw [if_neg (show ¬ (am_bfr (fun _ a => pu_lgF (ν 24) O a) (am_it (pu_loS ln (ν 24) mk Lc) 0 O) r) = (am_it (fun _ a => pu_lgF (ν 24) O a) (am_it (pu_loS ln (ν 24) mk Lc) 0 O) r) from (hrun r hr2))]
          refine am_g 4 109 [some (.ref 47), some (.int (am_it (fun _ a => pu_lgF (ν 24) O a) (am_it (pu_loS ln (ν 24) mk Lc) 0 O) r)), some (.int (am_it (fun _ a => pu_lgF (ν 24) O a) (am_it (pu_loS ln (ν 24) mk Lc) 0 O) r)), some (.int 0), w2] [] (hG σ sr ln Lc ν) rfl ?_
          have lpc : ∀ (rc o : Nat) (w2 : Option Value), o + rc = O → am_R xs LL cd_X12_leaves (am_X xs LL (d + 6)) 109 [some (.ref 47), some (.int (am_it (pu_hfS (ν 24) (am_it (fun _ a => pu_lgF (ν 24) O a) (am_it (pu_loS ln (ν 24) mk Lc) 0 O) r)) (am_it (fun _ a => pu_lgF (ν 24) O a) (am_it (pu_loS ln (ν 24) mk Lc) 0 O) r) o)), some (.int (am_it (fun _ a => pu_lgF (ν 24) O a) (am_it (pu_loS ln (ν 24) mk Lc) 0 O) r)), some (.int (nI o)), w2] [] (hG σ sr ln Lc ν) (some (.int (am_it (fun _ a => pu_lgF (ν 24) O a) (am_it (pu_loS ln (ν 24) mk Lc) 0 O) k))) (hG σ sr ln Lc ν) := by
            intro rc
            induction rc with
            | zero =>
              intro o w2 hic
              have hi2c : o = O := by omega
              rw [hi2c]
              refine am_g 3 114 [some (.ref 47), some (.int (am_it (pu_hfS (ν 24) (am_it (fun _ a => pu_lgF (ν 24) O a) (am_it (pu_loS ln (ν 24) mk Lc) 0 O) r)) (am_it (fun _ a => pu_lgF (ν 24) O a) (am_it (pu_loS ln (ν 24) mk Lc) 0 O) r) O)), some (.int (am_it (fun _ a => pu_lgF (ν 24) O a) (am_it (pu_loS ln (ν 24) mk Lc) 0 O) r)), some (.int (nI O)), w2] [.int (ν 19 0), .int (nI O)] (hG σ sr ln Lc ν) rfl ?_
              rw [show (ν 19 0) = (nI O) from hO]
              refine am_g 1 (if (nI O) ≤ (nI O) then 161 else 117) [some (.ref 47), some (.int (am_it (pu_hfS (ν 24) (am_it (fun _ a => pu_lgF (ν 24) O a) (am_it (pu_loS ln (ν 24) mk Lc) 0 O) r)) (am_it (fun _ a => pu_lgF (ν 24) O a) (am_it (pu_loS ln (ν 24) mk Lc) 0 O) r) O)), some (.int (am_it (fun _ a => pu_lgF (ν 24) O a) (am_it (pu_loS ln (ν 24) mk Lc) 0 O) r)), some (.int (nI O)), w2] [] (hG σ sr ln Lc ν) rfl ?_
              rw [if_pos (show (nI O) ≤ (nI O) from (am_dle (a := O) (b := O) (rfl) (rfl) (by omega) (by omega) (by omega)))]
              refine am_g 1 100 [some (.ref 47), some (.int (am_it (pu_hfS (ν 24) (am_it (fun _ a => pu_lgF (ν 24) O a) (am_it (pu_loS ln (ν 24) mk Lc) 0 O) r)) (am_it (fun _ a => pu_lgF (ν 24) O a) (am_it (pu_loS ln (ν 24) mk Lc) 0 O) r) O)), some (.int (am_it (fun _ a => pu_lgF (ν 24) O a) (am_it (pu_loS ln (ν 24) mk Lc) 0 O) r)), some (.int (nI O)), w2] [] (hG σ sr ln Lc ν) rfl ?_
              exact ihw (r + 1) _ _ (by omega)
            | succ rc ihc =>
              intro o w2 hic
              have hi2c : o < O := by omega
              refine am_g 3 114 [some (.ref 47), some (.int (am_it (pu_hfS (ν 24) (am_it (fun _ a => pu_lgF (ν 24) O a) (am_it (pu_loS ln (ν 24) mk Lc) 0 O) r)) (am_it (fun _ a => pu_lgF (ν 24) O a) (am_it (pu_loS ln (ν 24) mk Lc) 0 O) r) o)), some (.int (am_it (fun _ a => pu_lgF (ν 24) O a) (am_it (pu_loS ln (ν 24) mk Lc) 0 O) r)), some (.int (nI o)), w2] [.int (ν 19 0), .int (nI o)] (hG σ sr ln Lc ν) rfl ?_
              rw [show (ν 19 0) = (nI O) from hO]
              refine am_g 1 (if (nI O) ≤ (nI o) then 161 else 117) [some (.ref 47), some (.int (am_it (pu_hfS (ν 24) (am_it (fun _ a => pu_lgF (ν 24) O a) (am_it (pu_loS ln (ν 24) mk Lc) 0 O) r)) (am_it (fun _ a => pu_lgF (ν 24) O a) (am_it (pu_loS ln (ν 24) mk Lc) 0 O) r) o)), some (.int (am_it (fun _ a => pu_lgF (ν 24) O a) (am_it (pu_loS ln (ν 24) mk Lc) 0 O) r)), some (.int (nI o)), w2] [] (hG σ sr ln Lc ν) rfl ?_
              rw [if_neg (show ¬ (nI O) ≤ (nI o) from (am_dnle (a := O) (b := o) (rfl) (rfl) (by omega) (by omega) (by omega)))]
              refine am_g 12 (if (((am_it (fun _ a => pu_lgF (ν 24) O a) (am_it (pu_loS ln (ν 24) mk Lc) 0 O) r) >>> ((nI o) &&& 31)) &&& 1) = 1 then 135 else 155) [some (.ref 47), some (.int (am_it (pu_hfS (ν 24) (am_it (fun _ a => pu_lgF (ν 24) O a) (am_it (pu_loS ln (ν 24) mk Lc) 0 O) r)) (am_it (fun _ a => pu_lgF (ν 24) O a) (am_it (pu_loS ln (ν 24) mk Lc) 0 O) r) o)), some (.int (am_it (fun _ a => pu_lgF (ν 24) O a) (am_it (pu_loS ln (ν 24) mk Lc) 0 O) r)), some (.int (nI o)), some (.int 0)] [] (hG σ sr ln Lc ν) rfl (am_brR (fun c1 => ?_) (fun c1 => ?_))
              · skip
                refine am_g 5 143 [some (.ref 47), some (.int (am_it (pu_hfS (ν 24) (am_it (fun _ a => pu_lgF (ν 24) O a) (am_it (pu_loS ln (ν 24) mk Lc) 0 O) r)) (am_it (fun _ a => pu_lgF (ν 24) O a) (am_it (pu_loS ln (ν 24) mk Lc) 0 O) r) o)), some (.int (am_it (fun _ a => pu_lgF (ν 24) O a) (am_it (pu_loS ln (ν 24) mk Lc) 0 O) r)), some (.int (nI o)), some (.int 0)] [.int 0, .int (nI o), .ref 65, .int (am_it (pu_hfS (ν 24) (am_it (fun _ a => pu_lgF (ν 24) O a) (am_it (pu_loS ln (ν 24) mk Lc) 0 O) r)) (am_it (fun _ a => pu_lgF (ν 24) O a) (am_it (pu_loS ln (ν 24) mk Lc) 0 O) r) o)] (hG σ sr ln Lc ν) rfl ?_
                refine am_call (y := 167) (vs := [.int (nI o), .int 0]) (rest := [.ref 65, .int (am_it (pu_hfS (ν 24) (am_it (fun _ a => pu_lgF (ν 24) O a) (am_it (pu_loS ln (ν 24) mk Lc) 0 O) r)) (am_it (fun _ a => pu_lgF (ν 24) O a) (am_it (pu_loS ln (ν 24) mk Lc) 0 O) r) o)]) (v := (some (.int (nI (20 + 3 * o + 0))))) (h1 := (hG σ sr ln Lc ν)) rfl rfl rfl (sp_X12_fieldAt (d + 5) _ o 0 (by omega) (by omega)) ?_
                refine am_ialdR (n := 68) (f := (ν 24)) (k := (20 + 3 * o + 0)) rfl rfl (rfl) (by omega) (by decide) ?_
                refine am_g 14 (if (((am_it (fun _ a => pu_lgF (ν 24) O a) (am_it (pu_loS ln (ν 24) mk Lc) 0 O) r) >>> ((nI o) &&& 31)) &&& 1) = 1 then 135 else 155) [some (.ref 47), some (.int ((am_it (pu_hfS (ν 24) (am_it (fun _ a => pu_lgF (ν 24) O a) (am_it (pu_loS ln (ν 24) mk Lc) 0 O) r)) (am_it (fun _ a => pu_lgF (ν 24) O a) (am_it (pu_loS ln (ν 24) mk Lc) 0 O) r) o) ||| (ν 24 (20 + 3 * o + 0)))), some (.int (am_it (fun _ a => pu_lgF (ν 24) O a) (am_it (pu_loS ln (ν 24) mk Lc) 0 O) r)), some (.int (nI o)), some (.int 1)] [] (hG σ sr ln Lc ν) rfl ?_
                rw [if_pos (show (((am_it (fun _ a => pu_lgF (ν 24) O a) (am_it (pu_loS ln (ν 24) mk Lc) 0 O) r) >>> ((nI o) &&& 31)) &&& 1) = 1 from c1)]
                refine am_g 5 143 [some (.ref 47), some (.int ((am_it (pu_hfS (ν 24) (am_it (fun _ a => pu_lgF (ν 24) O a) (am_it (pu_loS ln (ν 24) mk Lc) 0 O) r)) (am_it (fun _ a => pu_lgF (ν 24) O a) (am_it (pu_loS ln (ν 24) mk Lc) 0 O) r) o) ||| (ν 24 (20 + 3 * o + 0)))), some (.int (am_it (fun _ a => pu_lgF (ν 24) O a) (am_it (pu_loS ln (ν 24) mk Lc) 0 O) r)), some (.int (nI o)), some (.int 1)] [.int 1, .int (nI o), .ref 65, .int ((am_it (pu_hfS (ν 24) (am_it (fun _ a => pu_lgF (ν 24) O a) (am_it (pu_loS ln (ν 24) mk Lc) 0 O) r)) (am_it (fun _ a => pu_lgF (ν 24) O a) (am_it (pu_loS ln (ν 24) mk Lc) 0 O) r) o) ||| (ν 24 (20 + 3 * o + 0)))] (hG σ sr ln Lc ν) rfl ?_
                refine am_call (y := 167) (vs := [.int (nI o), .int 1]) (rest := [.ref 65, .int ((am_it (pu_hfS (ν 24) (am_it (fun _ a => pu_lgF (ν 24) O a) (am_it (pu_loS ln (ν 24) mk Lc) 0 O) r)) (am_it (fun _ a => pu_lgF (ν 24) O a) (am_it (pu_loS ln (ν 24) mk Lc) 0 O) r) o) ||| (ν 24 (20 + 3 * o + 0)))]) (v := (some (.int (nI (20 + 3 * o + 1))))) (h1 := (hG σ sr ln Lc ν)) rfl rfl rfl (sp_X12_fieldAt (d + 5) _ o 1 (by omega) (by omega)) ?_
                refine am_ialdR (n := 68) (f := (ν 24)) (k := (20 + 3 * o + 1)) rfl rfl (rfl) (by omega) (by decide) ?_
                refine am_g 14 (if (((am_it (fun _ a => pu_lgF (ν 24) O a) (am_it (pu_loS ln (ν 24) mk Lc) 0 O) r) >>> ((nI o) &&& 31)) &&& 1) = 1 then 135 else 155) [some (.ref 47), some (.int (((am_it (pu_hfS (ν 24) (am_it (fun _ a => pu_lgF (ν 24) O a) (am_it (pu_loS ln (ν 24) mk Lc) 0 O) r)) (am_it (fun _ a => pu_lgF (ν 24) O a) (am_it (pu_loS ln (ν 24) mk Lc) 0 O) r) o) ||| (ν 24 (20 + 3 * o + 0))) ||| (ν 24 (20 + 3 * o + 1)))), some (.int (am_it (fun _ a => pu_lgF (ν 24) O a) (am_it (pu_loS ln (ν 24) mk Lc) 0 O) r)), some (.int (nI o)), some (.int 2)] [] (hG σ sr ln Lc ν) rfl ?_
                rw [if_pos (show (((am_it (fun _ a => pu_lgF (ν 24) O a) (am_it (pu_loS ln (ν 24) mk Lc) 0 O) r) >>> ((nI o) &&& 31)) &&& 1) = 1 from c1)]
                refine am_g 5 143 [some (.ref 47), some (.int (((am_it (pu_hfS (ν 24) (am_it (fun _ a => pu_lgF (ν 24) O a) (am_it (pu_loS ln (ν 24) mk Lc) 0 O) r)) (am_it (fun _ a => pu_lgF (ν 24) O a) (am_it (pu_loS ln (ν 24) mk Lc) 0 O) r) o) ||| (ν 24 (20 + 3 * o + 0))) ||| (ν 24 (20 + 3 * o + 1)))), some (.int (am_it (fun _ a => pu_lgF (ν 24) O a) (am_it (pu_loS ln (ν 24) mk Lc) 0 O) r)), some (.int (nI o)), some (.int 2)] [.int 2, .int (nI o), .ref 65, .int (((am_it (pu_hfS (ν 24) (am_it (fun _ a => pu_lgF (ν 24) O a) (am_it (pu_loS ln (ν 24) mk Lc) 0 O) r)) (am_it (fun _ a => pu_lgF (ν 24) O a) (am_it (pu_loS ln (ν 24) mk Lc) 0 O) r) o) ||| (ν 24 (20 + 3 * o + 0))) ||| (ν 24 (20 + 3 * o + 1)))] (hG σ sr ln Lc ν) rfl ?_
                refine am_call (y := 167) (vs := [.int (nI o), .int 2]) (rest := [.ref 65, .int (((am_it (pu_hfS (ν 24) (am_it (fun _ a => pu_lgF (ν 24) O a) (am_it (pu_loS ln (ν 24) mk Lc) 0 O) r)) (am_it (fun _ a => pu_lgF (ν 24) O a) (am_it (pu_loS ln (ν 24) mk Lc) 0 O) r) o) ||| (ν 24 (20 + 3 * o + 0))) ||| (ν 24 (20 + 3 * o + 1)))]) (v := (some (.int (nI (20 + 3 * o + 2))))) (h1 := (hG σ sr ln Lc ν)) rfl rfl rfl (sp_X12_fieldAt (d + 5) _ o 2 (by omega) (by omega)) ?_
                refine am_ialdR (n := 68) (f := (ν 24)) (k := (20 + 3 * o + 2)) rfl rfl (rfl) (by omega) (by decide) ?_
                refine am_g 9 109 [some (.ref 47), some (.int ((((am_it (pu_hfS (ν 24) (am_it (fun _ a => pu_lgF (ν 24) O a) (am_it (pu_loS ln (ν 24) mk Lc) 0 O) r)) (am_it (fun _ a => pu_lgF (ν 24) O a) (am_it (pu_loS ln (ν 24) mk Lc) 0 O) r) o) ||| (ν 24 (20 + 3 * o + 0))) ||| (ν 24 (20 + 3 * o + 1))) ||| (ν 24 (20 + 3 * o + 2)))), some (.int (am_it (fun _ a => pu_lgF (ν 24) O a) (am_it (pu_loS ln (ν 24) mk Lc) 0 O) r)), some (.int ((nI o) + 1)), some (.int 3)] [] (hG σ sr ln Lc ν) rfl ?_
                rw [nI_up, ← (show (am_it (pu_hfS (ν 24) (am_it (fun _ a => pu_lgF (ν 24) O a) (am_it (pu_loS ln (ν 24) mk Lc) 0 O) r)) (am_it (fun _ a => pu_lgF (ν 24) O a) (am_it (pu_loS ln (ν 24) mk Lc) 0 O) r) (o + 1)) = ((((am_it (pu_hfS (ν 24) (am_it (fun _ a => pu_lgF (ν 24) O a) (am_it (pu_loS ln (ν 24) mk Lc) 0 O) r)) (am_it (fun _ a => pu_lgF (ν 24) O a) (am_it (pu_loS ln (ν 24) mk Lc) 0 O) r) o) ||| (ν 24 (20 + 3 * o + 0))) ||| (ν 24 (20 + 3 * o + 1))) ||| (ν 24 (20 + 3 * o + 2))) from (by rw [am_itS]; unfold pu_hfS; rw [show am_hb (am_it (fun _ a => pu_lgF (ν 24) O a) (am_it (pu_loS ln (ν 24) mk Lc) 0 O) r) o = true from decide_eq_true c1]; rfl))]
                exact ihc (o + 1) _ (by omega)
              · skip
                refine am_g 2 109 [some (.ref 47), some (.int (am_it (pu_hfS (ν 24) (am_it (fun _ a => pu_lgF (ν 24) O a) (am_it (pu_loS ln (ν 24) mk Lc) 0 O) r)) (am_it (fun _ a => pu_lgF (ν 24) O a) (am_it (pu_loS ln (ν 24) mk Lc) 0 O) r) o)), some (.int (am_it (fun _ a => pu_lgF (ν 24) O a) (am_it (pu_loS ln (ν 24) mk Lc) 0 O) r)), some (.int ((nI o) + 1)), some (.int 0)] [] (hG σ sr ln Lc ν) rfl ?_
                rw [nI_up, ← (show (am_it (pu_hfS (ν 24) (am_it (fun _ a => pu_lgF (ν 24) O a) (am_it (pu_loS ln (ν 24) mk Lc) 0 O) r)) (am_it (fun _ a => pu_lgF (ν 24) O a) (am_it (pu_loS ln (ν 24) mk Lc) 0 O) r) (o + 1)) = (am_it (pu_hfS (ν 24) (am_it (fun _ a => pu_lgF (ν 24) O a) (am_it (pu_loS ln (ν 24) mk Lc) 0 O) r)) (am_it (fun _ a => pu_lgF (ν 24) O a) (am_it (pu_loS ln (ν 24) mk Lc) 0 O) r) o) from (by rw [am_itS]; unfold pu_hfS; rw [show am_hb (am_it (fun _ a => pu_lgF (ν 24) O a) (am_it (pu_loS ln (ν 24) mk Lc) 0 O) r) o = false from decide_eq_false c1]; rfl))]
                exact ihc (o + 1) _ (by omega)
          exact lpc O 0 _ (by omega)
      exact lpw (k + 1) 0 _ _ (by omega)
    | succ ra iha =>
      intro o w w2 hia
      have hi2a : o < O := by omega
      refine am_g 3 15 [some (.ref 47), some (.int (am_it (pu_loS ln (ν 24) mk Lc) 0 o)), some (.int (nI o)), w, w2] [.int (ν 19 0), .int (nI o)] (hG σ sr ln Lc ν) rfl ?_
      rw [show (ν 19 0) = (nI O) from hO]
      refine am_g 1 (if (nI O) ≤ (nI o) then 98 else 18) [some (.ref 47), some (.int (am_it (pu_loS ln (ν 24) mk Lc) 0 o)), some (.int (nI o)), w, w2] [] (hG σ sr ln Lc ν) rfl ?_
      rw [if_neg (show ¬ (nI O) ≤ (nI o) from (am_dnle (a := O) (b := o) (rfl) (rfl) (by omega) (by omega) (by omega)))]
      refine am_g 2 20 [some (.ref 47), some (.int (am_it (pu_loS ln (ν 24) mk Lc) 0 o)), some (.int (nI o)), some (.int 0), w2] [] (hG σ sr ln Lc ν) rfl ?_
      have lpb : ∀ (rb l : Nat), l + rb = Lc → am_R xs LL cd_X12_leaves (am_X xs LL (d + 6)) 20 [some (.ref 47), some (.int (am_it (pu_lmS ln (ν 24) (mk o) o) (am_it (pu_loS ln (ν 24) mk Lc) 0 o) l)), some (.int (nI o)), some (.int (nI l)), w2] [] (hG σ sr ln Lc ν) (some (.int (am_it (fun _ a => pu_lgF (ν 24) O a) (am_it (pu_loS ln (ν 24) mk Lc) 0 O) k))) (hG σ sr ln Lc ν) := by
        intro rb
        induction rb with
        | zero =>
          intro l  hib
          have hi2b : l = Lc := by omega
          rw [hi2b]
          refine am_g 3 25 [some (.ref 47), some (.int (am_it (pu_lmS ln (ν 24) (mk o) o) (am_it (pu_loS ln (ν 24) mk Lc) 0 o) Lc)), some (.int (nI o)), some (.int (nI Lc)), w2] [.int (ν 17 0), .int (nI Lc)] (hG σ sr ln Lc ν) rfl ?_
          rw [show (ν 17 0) = (nI Lc) from hRL.1]
          refine am_g 1 (if (nI Lc) ≤ (nI Lc) then 92 else 28) [some (.ref 47), some (.int (am_it (pu_lmS ln (ν 24) (mk o) o) (am_it (pu_loS ln (ν 24) mk Lc) 0 o) Lc)), some (.int (nI o)), some (.int (nI Lc)), w2] [] (hG σ sr ln Lc ν) rfl ?_
          rw [if_pos (show (nI Lc) ≤ (nI Lc) from (am_dle (a := Lc) (b := Lc) (rfl) (rfl) (by omega) (by omega) (by omega)))]
          refine am_g 2 10 [some (.ref 47), some (.int (am_it (pu_lmS ln (ν 24) (mk o) o) (am_it (pu_loS ln (ν 24) mk Lc) 0 o) Lc)), some (.int ((nI o) + 1)), some (.int (nI Lc)), w2] [] (hG σ sr ln Lc ν) rfl ?_
          rw [nI_up, ← (show (am_it (pu_loS ln (ν 24) mk Lc) 0 (o + 1)) = (am_it (pu_lmS ln (ν 24) (mk o) o) (am_it (pu_loS ln (ν 24) mk Lc) 0 o) Lc) from rfl)]
          exact iha (o + 1) _ _ (by omega)
        | succ rb ihb =>
          intro l  hib
          have hi2b : l < Lc := by omega
          refine am_g 3 25 [some (.ref 47), some (.int (am_it (pu_lmS ln (ν 24) (mk o) o) (am_it (pu_loS ln (ν 24) mk Lc) 0 o) l)), some (.int (nI o)), some (.int (nI l)), w2] [.int (ν 17 0), .int (nI l)] (hG σ sr ln Lc ν) rfl ?_
          rw [show (ν 17 0) = (nI Lc) from hRL.1]
          refine am_g 1 (if (nI Lc) ≤ (nI l) then 92 else 28) [some (.ref 47), some (.int (am_it (pu_lmS ln (ν 24) (mk o) o) (am_it (pu_loS ln (ν 24) mk Lc) 0 o) l)), some (.int (nI o)), some (.int (nI l)), w2] [] (hG σ sr ln Lc ν) rfl ?_
          rw [if_neg (show ¬ (nI Lc) ≤ (nI l) from (am_dnle (a := Lc) (b := l) (rfl) (rfl) (by omega) (by omega) (by omega)))]
          obtain ⟨x, hx20, hx⟩ := (hwl l hi2b).1
          refine am_g 4 34 [some (.ref 47), some (.int (am_it (pu_lmS ln (ν 24) (mk o) o) (am_it (pu_loS ln (ν 24) mk Lc) 0 o) l)), some (.int (nI o)), some (.int (nI l)), w2] [.int (nI l), .ref 60, .int (am_it (pu_lmS ln (ν 24) (mk o) o) (am_it (pu_loS ln (ν 24) mk Lc) 0 o) l)] (hG σ sr ln Lc ν) rfl ?_
          refine am_baldV (n := 40) (f := (ν 14)) (k := l) (w := (ln l 6)) rfl rfl (rfl) (by omega) (by decide) (hRL.2.2.2.2.2.2.2.2.1 l hi2b) ?_
          refine am_g 1 (if (ln l 6) = 0 then 83 else 38) [some (.ref 47), some (.int (am_it (pu_lmS ln (ν 24) (mk o) o) (am_it (pu_loS ln (ν 24) mk Lc) 0 o) l)), some (.int (nI o)), some (.int (nI l)), w2] [.int (am_it (pu_lmS ln (ν 24) (mk o) o) (am_it (pu_loS ln (ν 24) mk Lc) 0 o) l)] (hG σ sr ln Lc ν) rfl (am_brR (fun c2 => ?_) (fun c2 => ?_))
          · skip
            refine am_g 5 20 [some (.ref 47), some (.int ((am_it (pu_lmS ln (ν 24) (mk o) o) (am_it (pu_loS ln (ν 24) mk Lc) 0 o) l) ||| 0)), some (.int (nI o)), some (.int ((nI l) + 1)), w2] [] (hG σ sr ln Lc ν) rfl ?_
            have qq : (am_it (pu_lmS ln (ν 24) (mk o) o) (am_it (pu_loS ln (ν 24) mk Lc) 0 o) (l + 1)) = ((am_it (pu_lmS ln (ν 24) (mk o) o) (am_it (pu_loS ln (ν 24) mk Lc) 0 o) l) ||| 0) := by
              rw [am_itS]
              unfold pu_lmS pu_lmP; rw [decide_eq_false (fun q => q.1 c2)]; exact (am_or0 _).symm
            rw [nI_up, ← qq]
            exact ihb (l + 1) (by omega)
          · skip
            refine am_g 3 43 [some (.ref 47), some (.int (am_it (pu_lmS ln (ν 24) (mk o) o) (am_it (pu_loS ln (ν 24) mk Lc) 0 o) l)), some (.int (nI o)), some (.int (nI l)), w2] [.int (nI l), .ref 61, .int (am_it (pu_lmS ln (ν 24) (mk o) o) (am_it (pu_loS ln (ν 24) mk Lc) 0 o) l)] (hG σ sr ln Lc ν) rfl ?_
            refine am_ialdV (n := 40) (f := (ν 15)) (k := l) (w := (ln l 5)) rfl rfl (rfl) (by omega) (by decide) (hRL.2.2.2.2.2.2.2.2.2.1 l hi2b) ?_
            refine am_g 5 53 [some (.ref 47), some (.int (am_it (pu_lmS ln (ν 24) (mk o) o) (am_it (pu_loS ln (ν 24) mk Lc) 0 o) l)), some (.int (nI o)), some (.int (nI l)), w2] [.int (nI o), .ref 63, .ref 61, .int (ln l 5), .int (am_it (pu_lmS ln (ν 24) (mk o) o) (am_it (pu_loS ln (ν 24) mk Lc) 0 o) l)] (hG σ sr ln Lc ν) rfl ?_
            refine am_ialdV (n := 16) (f := (ν 18)) (k := o) (w := (nI (mk o))) rfl rfl (rfl) (by omega) (by decide) ((hmk o hi2a).1) ?_
            refine am_ialdV (n := 40) (f := (ν 15)) (k := (mk o)) (w := (ln (mk o) 5)) rfl rfl (rfl) (by have := (hmk o hi2a).2; omega) (by decide) (hRL.2.2.2.2.2.2.2.2.2.1 (mk o) (hmk o hi2a).2) ?_
            refine am_g 1 (if (ln l 5) = (ln (mk o) 5) then 83 else 58) [some (.ref 47), some (.int (am_it (pu_lmS ln (ν 24) (mk o) o) (am_it (pu_loS ln (ν 24) mk Lc) 0 o) l)), some (.int (nI o)), some (.int (nI l)), w2] [.int (am_it (pu_lmS ln (ν 24) (mk o) o) (am_it (pu_loS ln (ν 24) mk Lc) 0 o) l)] (hG σ sr ln Lc ν) rfl (am_brR (fun c3 => ?_) (fun c3 => ?_))
            · skip
              refine am_g 5 20 [some (.ref 47), some (.int ((am_it (pu_lmS ln (ν 24) (mk o) o) (am_it (pu_loS ln (ν 24) mk Lc) 0 o) l) ||| 0)), some (.int (nI o)), some (.int ((nI l) + 1)), w2] [] (hG σ sr ln Lc ν) rfl ?_
              have qq : (am_it (pu_lmS ln (ν 24) (mk o) o) (am_it (pu_loS ln (ν 24) mk Lc) 0 o) (l + 1)) = ((am_it (pu_lmS ln (ν 24) (mk o) o) (am_it (pu_loS ln (ν 24) mk Lc) 0 o) l) ||| 0) := by
                rw [am_itS]
                unfold pu_lmS pu_lmP; rw [decide_eq_false (fun q => q.2 c3)]; exact (am_or0 _).symm
              rw [nI_up, ← qq]
              exact ihb (l + 1) (by omega)
            · skip
              refine am_g 5 67 [some (.ref 47), some (.int (am_it (pu_lmS ln (ν 24) (mk o) o) (am_it (pu_loS ln (ν 24) mk Lc) 0 o) l)), some (.int (nI o)), some (.int (nI l)), w2] [.int (nI l), .ref 54, .ref 65, .int (am_it (pu_lmS ln (ν 24) (mk o) o) (am_it (pu_loS ln (ν 24) mk Lc) 0 o) l)] (hG σ sr ln Lc ν) rfl ?_
              refine am_ialdV (n := 40) (f := (ν 8)) (k := l) (w := (nI x)) rfl rfl (rfl) (by omega) (by decide) ((hRL.2.2.1 l hi2b).trans hx) ?_
              refine am_ialdR (n := 68) (f := (ν 24)) (k := x) rfl rfl (rfl) (by omega) (by decide) ?_
              refine am_g 6 (if (((ν 24 x) >>> ((nI o) &&& 31)) &&& 1) = 1 then 77 else 83) [some (.ref 47), some (.int (am_it (pu_lmS ln (ν 24) (mk o) o) (am_it (pu_loS ln (ν 24) mk Lc) 0 o) l)), some (.int (nI o)), some (.int (nI l)), w2] [.int (am_it (pu_lmS ln (ν 24) (mk o) o) (am_it (pu_loS ln (ν 24) mk Lc) 0 o) l)] (hG σ sr ln Lc ν) rfl (am_brR (fun c4 => ?_) (fun c4 => ?_))
              · skip
                refine am_g 8 20 [some (.ref 47), some (.int ((am_it (pu_lmS ln (ν 24) (mk o) o) (am_it (pu_loS ln (ν 24) mk Lc) 0 o) l) ||| (1 <<< ((nI o) &&& 31)))), some (.int (nI o)), some (.int ((nI l) + 1)), w2] [] (hG σ sr ln Lc ν) rfl ?_
                have qq : (am_it (pu_lmS ln (ν 24) (mk o) o) (am_it (pu_loS ln (ν 24) mk Lc) 0 o) (l + 1)) = ((am_it (pu_lmS ln (ν 24) (mk o) o) (am_it (pu_loS ln (ν 24) mk Lc) 0 o) l) ||| (1 <<< ((nI o) &&& 31))) := by
                  rw [am_itS]
                  unfold pu_lmS pu_lmP; rw [decide_eq_true ⟨c2, c3⟩, hx, am_hat_nI (by omega), show am_hb (ν 24 x) o = true from decide_eq_true c4]; rfl
                rw [nI_up, ← qq]
                exact ihb (l + 1) (by omega)
              · skip
                refine am_g 5 20 [some (.ref 47), some (.int ((am_it (pu_lmS ln (ν 24) (mk o) o) (am_it (pu_loS ln (ν 24) mk Lc) 0 o) l) ||| 0)), some (.int (nI o)), some (.int ((nI l) + 1)), w2] [] (hG σ sr ln Lc ν) rfl ?_
                have qq : (am_it (pu_lmS ln (ν 24) (mk o) o) (am_it (pu_loS ln (ν 24) mk Lc) 0 o) (l + 1)) = ((am_it (pu_lmS ln (ν 24) (mk o) o) (am_it (pu_loS ln (ν 24) mk Lc) 0 o) l) ||| 0) := by
                  rw [am_itS]
                  unfold pu_lmS pu_lmP; rw [hx, am_hat_nI (by omega), show am_hb (ν 24 x) o = false from decide_eq_false c4, Bool.and_false]; exact (am_or0 _).symm
                rw [nI_up, ← qq]
                exact ihb (l + 1) (by omega)
      exact lpb Lc 0 (by omega)
  exact lpa O 0 none none (by omega)
end LV
