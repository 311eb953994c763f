/-! the reference: the members of a kind -/
def am_orF (g : Nat → Int32) : Nat → Int32
  | 0 => 0
  | n + 1 => am_orF g n ||| g n
def am_okF (ab kf : Nat → Int32) (m k : Int32) (o : Nat) : Int32 := if (m >>> (nI o &&& 31)) &&& 1 = 1 then (bif am_undF ab k 9 (kf o) then 1 <<< (nI o &&& 31) else 0) else 0
section MK2
variable {xs : Nat → Int32} {LL : Nat} {σ μ : Nat → Nat → Int32} {sr : Nat → Nat} {ln : Nat → Nat → Int32} {Lc : Nat}
theorem sp_X12_ofKind (d : Nat) (hab : am_wab (μ 1)) (m k : Int32) (kf : Nat → Int32) (hkf : ∀ o, o < 16 → (m >>> (nI o &&& 31)) &&& 1 = 1 → (kf o = -1 ∨ ∃ j, j < 8 ∧ kf o = nI j) ∧ ∀ d, am_X xs LL (d + 2) 166 [.ref 47, .int (nI o)] (hG σ sr ln Lc μ) (some (.int (kf o))) (hG σ sr ln Lc μ)) : am_X xs LL (d + 3) 168 [.ref 47, .int m, .int k] (hG σ sr ln Lc μ) (some (.int (am_orF (am_okF (μ 1) kf m k) 16))) (hG σ sr ln Lc μ) := by
  refine am_XR (d := d + 2) (C := cd_X12_ofKind) (L := [some (.ref 47), some (.int m), some (.int k), none, none]) rfl rfl rfl rfl ?_
  refine am_g 4 5 [some (.ref 47), some (.int m), some (.int k), some (.int 0), some (.int 0)] [] (hG σ sr ln Lc μ) rfl ?_
  have lp : ∀ (r i : Nat), i + r = 16 → am_R xs LL cd_X12_ofKind (am_X xs LL (d + 2)) 5 [some (.ref 47), some (.int m), some (.int k), some (.int (am_orF (am_okF (μ 1) kf m k) i)), some (.int (nI i))] [] (hG σ sr ln Lc μ) (some (.int (am_orF (am_okF (μ 1) kf m k) 16))) (hG σ sr ln Lc μ) := by
    intro r
    induction r with
    | zero =>
      intro i hi
      have hi2 : i = 16 := by omega
      refine am_g 3 (if 16 ≤ (nI i) then 53 else 12) [some (.ref 47), some (.int m), some (.int k), some (.int (am_orF (am_okF (μ 1) kf m k) i)), some (.int (nI i))] [] (hG σ sr ln Lc μ) rfl ?_
      rw [if_pos (show 16 ≤ (nI i) from (am_dle (a := 16) (b := i) (rfl) (rfl) (by omega) (by omega) (by omega)))]
      refine am_g 1 54 [some (.ref 47), some (.int m), some (.int k), some (.int (am_orF (am_okF (μ 1) kf m k) i)), some (.int (nI i))] [.int (am_orF (am_okF (μ 1) kf m k) i)] (hG σ sr ln Lc μ) rfl ?_
      exact am_ret2 rfl rfl rfl (by rw [hi2]) rfl
    | succ r ih =>
      intro i hi
      have hi2 : i < 16 := by omega
      refine am_g 3 (if 16 ≤ (nI i) then 53 else 12) [some (.ref 47), some (.int m), some (.int k), some (.int (am_orF (am_okF (μ 1) kf m k) i)), some (.int (nI i))] [] (hG σ sr ln Lc μ) rfl ?_
      rw [if_neg (show ¬ 16 ≤ (nI i) from (am_dnle (a := 16) (b := i) (rfl) (rfl) (by omega) (by omega) (by omega)))]
      refine am_g 8 (if ((m >>> ((nI i) &&& 31)) &&& 1) = 1 then 23 else 44) [some (.ref 47), some (.int m), some (.int k), some (.int (am_orF (am_okF (μ 1) kf m k) i)), some (.int (nI i))] [.int (am_orF (am_okF (μ 1) kf m k) i)] (hG σ sr ln Lc μ) rfl (am_brR (fun c1 => ?_) (fun c1 => ?_))
      · skip
        refine am_g 3 27 [some (.ref 47), some (.int m), some (.int k), some (.int (am_orF (am_okF (μ 1) kf m k) i)), some (.int (nI i))] [.int (nI i), .ref 47, .ref 47, .int (am_orF (am_okF (μ 1) kf m k) i)] (hG σ sr ln Lc μ) rfl ?_
        refine am_call (y := 166) (vs := [.ref 47, .int (nI i)]) (rest := [.ref 47, .int (am_orF (am_okF (μ 1) kf m k) i)]) (v := (some (.int (kf i)))) (h1 := (hG σ sr ln Lc μ)) rfl rfl rfl ((hkf i (by omega) c1).2 d) ?_
        refine am_g 1 31 [some (.ref 47), some (.int m), some (.int k), some (.int (am_orF (am_okF (μ 1) kf m k) i)), some (.int (nI i))] [.int k, .int (kf i), .ref 47, .int (am_orF (am_okF (μ 1) kf m k) i)] (hG σ sr ln Lc μ) rfl ?_
        cases e2 : am_undF (μ 1) k 9 (kf i) with
        | false =>
          refine am_call (y := 150) (vs := [.ref 47, .int (kf i), .int k]) (rest := [.int (am_orF (am_okF (μ 1) kf m k) i)]) (v := (some (.int 0))) (h1 := (hG σ sr ln Lc μ)) rfl rfl rfl (sp_X12_isUnder (σ := σ) (μ := μ) (d + 1) hab _ _ (hkf i (by omega) c1).1 e2) ?_
          refine am_g 6 5 [some (.ref 47), some (.int m), some (.int k), some (.int ((am_orF (am_okF (μ 1) kf m k) i) ||| 0)), some (.int ((nI i) + 1))] [] (hG σ sr ln Lc μ) rfl ?_
          rw [nI_up, show am_orF (am_okF (μ 1) kf m k) i ||| 0 = am_orF (am_okF (μ 1) kf m k) (i + 1) from congrArg (am_orF (am_okF (μ 1) kf m k) i ||| ·) (show am_okF (μ 1) kf m k i = 0 from (if_pos c1).trans (by rw [e2]; rfl)).symm]
          exact ih (i + 1) (by omega)
        | true =>
          refine am_call (y := 150) (vs := [.ref 47, .int (kf i), .int k]) (rest := [.int (am_orF (am_okF (μ 1) kf m k) i)]) (v := (some (.int 1))) (h1 := (hG σ sr ln Lc μ)) rfl rfl rfl (sp_X12_isUnder (σ := σ) (μ := μ) (d + 1) hab _ _ (hkf i (by omega) c1).1 e2) ?_
          refine am_g 9 5 [some (.ref 47), some (.int m), some (.int k), some (.int ((am_orF (am_okF (μ 1) kf m k) i) ||| (1 <<< ((nI i) &&& 31)))), some (.int ((nI i) + 1))] [] (hG σ sr ln Lc μ) rfl ?_
          rw [nI_up, show am_orF (am_okF (μ 1) kf m k) i ||| (1 <<< ((nI i) &&& 31)) = am_orF (am_okF (μ 1) kf m k) (i + 1) from congrArg (am_orF (am_okF (μ 1) kf m k) i ||| ·) (show am_okF (μ 1) kf m k i = (1 <<< ((nI i) &&& 31)) from (if_pos c1).trans (by rw [e2]; rfl)).symm]
          exact ih (i + 1) (by omega)
      · skip
        refine am_g 5 5 [some (.ref 47), some (.int m), some (.int k), some (.int ((am_orF (am_okF (μ 1) kf m k) i) ||| 0)), some (.int ((nI i) + 1))] [] (hG σ sr ln Lc μ) rfl ?_
        rw [nI_up, show am_orF (am_okF (μ 1) kf m k) i ||| 0 = am_orF (am_okF (μ 1) kf m k) (i + 1) from congrArg (am_orF (am_okF (μ 1) kf m k) i ||| ·) (show am_okF (μ 1) kf m k i = 0 from if_neg c1).symm]
        exact ih (i + 1) (by omega)
  exact lp 16 0 (by omega)
end MK2
