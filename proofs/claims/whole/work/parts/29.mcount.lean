/-! the reference: lines counted -/
def am_sumF (f : Nat → Int32) : Nat → Int32
  | 0 => 0
  | n + 1 => am_sumF f n + f n
theorem nI_up (i : Nat) : nI i + 1 = nI (i + 1) := (Int32.ofNat_add i 1).symm
section MC
variable {xs : Nat → Int32} {LL : Nat} {σ μ : Nat → Nat → Int32} {sr : Nat → Nat} {ln : Nat → Nat → Int32} {Lc : Nat}
theorem sp_X12_count_2 (d : Nat) {N : Nat} (hN : μ 17 0 = nI N) (hN40 : N ≤ 40) (hz : ∀ i, i < N → μ 14 i = 0 ∨ μ 14 i = 1) : am_X xs LL (d + 1) 201 [.ref 47, .int 2] (hG σ sr ln Lc μ) (some (.int (am_sumF (μ 14) N))) (hG σ sr ln Lc μ) := by
  refine am_XR (d := d + 0) (C := cd_X12_count) (L := [some (.ref 47), some (.int 2), none, none]) rfl rfl rfl rfl ?_
  refine am_g 6 52 [some (.ref 47), some (.int 2), some (.int 0), some (.int 0)] [] (hG σ sr ln Lc μ) rfl ?_
  have lp : ∀ (r i : Nat), i + r = N → am_R xs LL cd_X12_count (am_X xs LL (d + 0)) 52 [some (.ref 47), some (.int 2), some (.int (am_sumF (μ 14) i)), some (.int (nI i))] [] (hG σ sr ln Lc μ) (some (.int (am_sumF (μ 14) N))) (hG σ sr ln Lc μ) := by
    intro r
    induction r with
    | zero =>
      intro i hi
      have hi2 : i = N := by omega
      subst hi2
      refine am_g 4 (if (μ 17 0) ≤ (nI i) then 83 else 60) [some (.ref 47), some (.int 2), some (.int (am_sumF (μ 14) i)), some (.int (nI i))] [] (hG σ sr ln Lc μ) rfl ?_
      rw [if_pos (show (μ 17 0) ≤ (nI i) from (am_dle (a := i) (b := i) (hN) (rfl) (by omega) (by omega) (by omega)))]
      refine am_g 1 84 [some (.ref 47), some (.int 2), some (.int (am_sumF (μ 14) i)), some (.int (nI i))] [.int (am_sumF (μ 14) i)] (hG σ sr ln Lc μ) rfl ?_
      exact am_ret2 rfl rfl rfl rfl rfl
    | succ r ih =>
      intro i hi
      have hi2 : i < N := by omega
      refine am_g 4 (if (μ 17 0) ≤ (nI i) then 83 else 60) [some (.ref 47), some (.int 2), some (.int (am_sumF (μ 14) i)), some (.int (nI i))] [] (hG σ sr ln Lc μ) rfl ?_
      rw [if_neg (show ¬ (μ 17 0) ≤ (nI i) from (am_dnle (a := N) (b := i) (hN) (rfl) (by omega) (by omega) (by omega)))]
      refine am_g 4 66 [some (.ref 47), some (.int 2), some (.int (am_sumF (μ 14) i)), some (.int (nI i))] [.int (nI i), .ref 60, .int (am_sumF (μ 14) i)] (hG σ sr ln Lc μ) rfl ?_
      refine am_baldR (n := 40) (f := (μ 14)) (k := i) rfl rfl (rfl) (by omega) (by decide) ?_
      refine am_g 1 (if (μ 14 i) = 0 then 74 else 70) [some (.ref 47), some (.int 2), some (.int (am_sumF (μ 14) i)), some (.int (nI i))] [.int (am_sumF (μ 14) i)] (hG σ sr ln Lc μ) rfl (am_brR (fun c1 => ?_) (fun c1 => ?_))
      · skip
        refine am_g 5 52 [some (.ref 47), some (.int 2), some (.int ((am_sumF (μ 14) i) + 0)), some (.int ((nI i) + 1))] [] (hG σ sr ln Lc μ) rfl ?_
        rw [nI_up, show am_sumF (μ 14) i + 0 = am_sumF (μ 14) (i + 1) from congrArg (am_sumF (μ 14) i + ·) c1.symm]
        exact ih (i + 1) (by omega)
      · skip
        refine am_g 6 52 [some (.ref 47), some (.int 2), some (.int ((am_sumF (μ 14) i) + 1)), some (.int ((nI i) + 1))] [] (hG σ sr ln Lc μ) rfl ?_
        rw [nI_up, show am_sumF (μ 14) i + 1 = am_sumF (μ 14) (i + 1) from congrArg (am_sumF (μ 14) i + ·) ((hz i (by omega)).resolve_left c1).symm]
        exact ih (i + 1) (by omega)
  exact lp N 0 (by omega)
theorem sp_X12_workOf_v (d : Nat) (h : am_H) (v : Int32) (hv : ∃ s, s < 6 ∧ v = nI s) : am_X xs LL (d + 1) 155 [.int v] h (some (.int (nI (am_wk v.toNatClampNeg)))) h := by
  obtain ⟨s, hs, rfl⟩ := hv
  rw [nI_clamp (by omega)]
  exact sp_X12_workOf d h s hs
def am_wkF (on sort : Nat → Int32) (i : Nat) : Int32 := if on i = 0 then 0 else nI (am_wk (sort i).toNatClampNeg)
theorem sp_X12_lineTold_9 (d : Nat) {N : Nat} (hN : μ 17 0 = nI N) (hN40 : N ≤ 40) (q : Nat) (hq : q < N) (hs : ∃ s, s < 6 ∧ μ 7 q = nI s) : am_X xs LL (d + 3) 163 [.ref 47, .int (nI q), .int 9] (hG σ sr ln Lc μ) (some (.int (nI (am_wk (μ 7 q).toNatClampNeg)))) (hG σ sr ln Lc μ) := by
  refine am_XR (d := d + 2) (C := cd_X12_lineTold) (L := [some (.ref 47), some (.int (nI q)), some (.int 9)]) rfl rfl rfl rfl ?_
  refine am_g 2 2 [some (.ref 47), some (.int (nI q)), some (.int 9)] [.int (nI q), .ref 47] (hG σ sr ln Lc μ) rfl ?_
  refine am_call (y := 152) (vs := [.ref 47, .int (nI q)]) (rest := []) (v := (some (.int 1))) (h1 := (hG σ sr ln Lc μ)) rfl rfl rfl (sp_X12_isLine (σ := σ) (μ := μ) d _ hN (by omega) (am_in_of_nI hq (by omega))) ?_
  refine am_g 6 148 [some (.ref 47), some (.int (nI q)), some (.int 9)] [.int (nI q), .ref 53] (hG σ sr ln Lc μ) rfl ?_
  refine am_ialdR (n := 40) (f := (μ 7)) (k := q) rfl rfl (rfl) (by omega) (by decide) ?_
  refine am_call (y := 155) (vs := [.int (μ 7 q)]) (rest := []) (v := (some (.int (nI (am_wk (μ 7 q).toNatClampNeg))))) (h1 := (hG σ sr ln Lc μ)) rfl rfl rfl (sp_X12_workOf_v (d + 1) _ _ (hs)) ?_
  exact am_ret2 rfl rfl rfl rfl rfl
theorem sp_X12_workOfAll (d : Nat) {N : Nat} (hN : μ 17 0 = nI N) (hN40 : N ≤ 40) (hs : ∀ i, i < N → ∃ s, s < 6 ∧ μ 7 i = nI s) : am_X xs LL (d + 2) 181 [.ref 47] (hG σ sr ln Lc μ) (some (.int (am_sumF (am_wkF (μ 14) (μ 7)) N))) (hG σ sr ln Lc μ) := by
  refine am_XR (d := d + 1) (C := cd_X12_workOfAll) (L := [some (.ref 47), none, none]) rfl rfl rfl rfl ?_
  refine am_g 4 4 [some (.ref 47), some (.int 0), some (.int 0)] [] (hG σ sr ln Lc μ) rfl ?_
  have lp : ∀ (r i : Nat), i + r = N → am_R xs LL cd_X12_workOfAll (am_X xs LL (d + 1)) 4 [some (.ref 47), some (.int (am_sumF (am_wkF (μ 14) (μ 7)) i)), some (.int (nI i))] [] (hG σ sr ln Lc μ) (some (.int (am_sumF (am_wkF (μ 14) (μ 7)) N))) (hG σ sr ln Lc μ) := by
    intro r
    induction r with
    | zero =>
      intro i hi
      have hi2 : i = N := by omega
      subst hi2
      refine am_g 4 (if (μ 17 0) ≤ (nI i) then 43 else 12) [some (.ref 47), some (.int (am_sumF (am_wkF (μ 14) (μ 7)) i)), some (.int (nI i))] [] (hG σ sr ln Lc μ) rfl ?_
      rw [if_pos (show (μ 17 0) ≤ (nI i) from (am_dle (a := i) (b := i) (hN) (rfl) (by omega) (by omega) (by omega)))]
      refine am_g 1 44 [some (.ref 47), some (.int (am_sumF (am_wkF (μ 14) (μ 7)) i)), some (.int (nI i))] [.int (am_sumF (am_wkF (μ 14) (μ 7)) i)] (hG σ sr ln Lc μ) rfl ?_
      exact am_ret2 rfl rfl rfl rfl rfl
    | succ r ih =>
      intro i hi
      have hi2 : i < N := by omega
      refine am_g 4 (if (μ 17 0) ≤ (nI i) then 43 else 12) [some (.ref 47), some (.int (am_sumF (am_wkF (μ 14) (μ 7)) i)), some (.int (nI i))] [] (hG σ sr ln Lc μ) rfl ?_
      rw [if_neg (show ¬ (μ 17 0) ≤ (nI i) from (am_dnle (a := N) (b := i) (hN) (rfl) (by omega) (by omega) (by omega)))]
      refine am_g 4 18 [some (.ref 47), some (.int (am_sumF (am_wkF (μ 14) (μ 7)) i)), some (.int (nI i))] [.int (nI i), .ref 60, .int (am_sumF (am_wkF (μ 14) (μ 7)) i)] (hG σ sr ln Lc μ) rfl ?_
      refine am_baldR (n := 40) (f := (μ 14)) (k := i) rfl rfl (rfl) (by omega) (by decide) ?_
      refine am_g 1 (if (μ 14 i) = 0 then 34 else 22) [some (.ref 47), some (.int (am_sumF (am_wkF (μ 14) (μ 7)) i)), some (.int (nI i))] [.int (am_sumF (am_wkF (μ 14) (μ 7)) i)] (hG σ sr ln Lc μ) rfl (am_brR (fun c1 => ?_) (fun c1 => ?_))
      · skip
        refine am_g 5 4 [some (.ref 47), some (.int ((am_sumF (am_wkF (μ 14) (μ 7)) i) + 0)), some (.int ((nI i) + 1))] [] (hG σ sr ln Lc μ) rfl ?_
        rw [nI_up, show am_sumF (am_wkF (μ 14) (μ 7)) i + 0 = am_sumF (am_wkF (μ 14) (μ 7)) (i + 1) from congrArg (am_sumF (am_wkF (μ 14) (μ 7)) i + ·) (show am_wkF (μ 14) (μ 7) i = 0 from (if_pos c1)).symm]
        exact ih (i + 1) (by omega)
      · skip
        refine am_g 3 27 [some (.ref 47), some (.int (am_sumF (am_wkF (μ 14) (μ 7)) i)), some (.int (nI i))] [.int (nI i), .ref 53, .int (am_sumF (am_wkF (μ 14) (μ 7)) i)] (hG σ sr ln Lc μ) rfl ?_
        refine am_ialdR (n := 40) (f := (μ 7)) (k := i) rfl rfl (rfl) (by omega) (by decide) ?_
        refine am_call (y := 155) (vs := [.int (μ 7 i)]) (rest := [.int (am_sumF (am_wkF (μ 14) (μ 7)) i)]) (v := (some (.int (nI (am_wk (μ 7 i).toNatClampNeg))))) (h1 := (hG σ sr ln Lc μ)) rfl rfl rfl (sp_X12_workOf_v d _ _ (hs i (by omega))) ?_
        refine am_g 5 4 [some (.ref 47), some (.int ((am_sumF (am_wkF (μ 14) (μ 7)) i) + (nI (am_wk (μ 7 i).toNatClampNeg)))), some (.int ((nI i) + 1))] [] (hG σ sr ln Lc μ) rfl ?_
        rw [nI_up, show am_sumF (am_wkF (μ 14) (μ 7)) i + (nI (am_wk (μ 7 i).toNatClampNeg)) = am_sumF (am_wkF (μ 14) (μ 7)) (i + 1) from congrArg (am_sumF (am_wkF (μ 14) (μ 7)) i + ·) (show am_wkF (μ 14) (μ 7) i = (nI (am_wk (μ 7 i).toNatClampNeg)) from (if_neg c1)).symm]
        exact ih (i + 1) (by omega)
  exact lp N 0 (by omega)
end MC
