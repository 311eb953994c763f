/-! the reference: lines counted -/
def am_sumF (f : Nat → Int32) : Nat → Int32
  | 0 => 0
  | n + 1 => am_sumF f n + f n
theorem nI_up (i : Nat) : nI i + 1 = nI (i + 1) := (Int32.ofNat_add i 1).symm
section MC
variable {xs : Nat → Int32} {LL : Nat} {σ μ : Nat → Nat → Int32} {sr : Nat → Nat} {ln : Nat → Nat → Int32} {Lc : Nat}
theorem sp_X12_count_2 (d : Nat) {N : Nat} (hN : μ 17 0 = nI N) (hN40 : N ≤ 40) (hz : ∀ i, i < N → μ 14 i = 0 ∨ μ 14 i = 1) : am_X xs LL (d + 1) 201 [.ref 47, .int 2] (hG σ sr ln Lc μ) (some (.int (am_sumF (μ 14) N))) (hG σ sr ln Lc μ) := by
  refine am_XR (d := d + 0) (C := cd_X12_count) (L := [some (.ref 47), some (.int 2), none, none]) rfl rfl rfl rfl ?_
  refine am_g 6 52 [some (.ref 47), some (.int 2), some (.int 0), some (.int 0)] [] (hG σ sr ln Lc μ) rfl ?_
  have lp : ∀ (r i : Nat), i + r = N → am_R xs LL cd_X12_count (am_X xs LL (d + 0)) 52 [some (.ref 47), some (.int 2), some (.int (am_sumF (μ 14) i)), some (.int (nI i))] [] (hG σ sr ln Lc μ) (some (.int (am_sumF (μ 14) N))) (hG σ sr ln Lc μ) := by
    intro r
    induction r with
    | zero =>
      intro i hi
      have hi2 : i = N := by omega
      subst hi2
      refine am_g 4 (if (μ 17 0) ≤ (nI i) then 83 else 60) [some (.ref 47), some (.int 2), some (.int (am_sumF (μ 14) i)), some (.int (nI i))] [] (hG σ sr ln Lc μ) rfl ?_
      rw [if_pos (show (μ 17 0) ≤ (nI i) from (am_dle (a := i) (b := i) (hN) (rfl) (by omega) (by omega) (by omega)))]
      refine am_g 1 84 [some (.ref 47), some (.int 2), some (.int (am_sumF (μ 14) i)), some (.int (nI i))] [.int (am_sumF (μ 14) i)] (hG σ sr ln Lc μ) rfl ?_
      exact am_ret2 rfl rfl rfl rfl rfl
    | succ r ih =>
      intro i hi
      have hi2 : i < N := by omega
      refine am_g 4 (if (μ 17 0) ≤ (nI i) then 83 else 60) [some (.ref 47), some (.int 2), some (.int (am_sumF (μ 14) i)), some (.int (nI i))] [] (hG σ sr ln Lc μ) rfl ?_
      rw [if_neg (show ¬ (μ 17 0) ≤ (nI i) from (am_dnle (a := N) (b := i) (hN) (rfl) (by omega) (by omega) (by omega)))]
      refine am_g 4 66 [some (.ref 47), some (.int 2), some (.int (am_sumF (μ 14) i)), some (.int (nI i))] [.int (nI i), .ref 60, .int (am_sumF (μ 14) i)] (hG σ sr ln Lc μ) rfl ?_
      refine am_baldR (n := 40) (f := (μ 14)) (k := i) rfl rfl (rfl) (by omega) (by decide) ?_
      refine am_g 1 (if (μ 14 i) = 0 then 74 else 70) [some (.ref 47), some (.int 2), some (.int (am_sumF (μ 14) i)), some (.int (nI i))] [.int (am_sumF (μ 14) i)] (hG σ sr ln Lc μ) rfl (am_brR (fun c1 => ?_) (fun c1 => ?_))
      · skip
        refine am_g 5 52 [some (.ref 47), some (.int 2), some (.int ((am_sumF (μ 14) i) + 0)), some (.int ((nI i) + 1))] [] (hG σ sr ln Lc μ) rfl ?_
        rw [nI_up, show am_sumF (μ 14) i + 0 = am_sumF (μ 14) (i + 1) from congrArg (am_sumF (μ 14) i + ·) c1.symm]
        exact ih (i + 1) (by omega)
      · skip
        refine am_g 6 52 [some (.ref 47), some (.int 2), some (.int ((am_sumF (μ 14) i) + 1)), some (.int ((nI i) + 1))] [] (hG σ sr ln Lc μ) rfl ?_
        rw [nI_up, show am_sumF (μ 14) i + 1 = am_sumF (μ 14) (i + 1) from congrArg (am_sumF (μ 14) i + ·) ((hz i (by omega)).resolve_left c1).symm]
        exact ih (i + 1) (by omega)
  exact lp N 0 (by omega)
end MC
