/-! the reference: sheets -/
theorem am_us_idM {σ : Nat → Nat → Int32} {sr : Nat → Nat} {ln : Nat → Nat → Int32} {Lc : Nat} {μ : Nat → Nat → Int32} : hG σ sr ln Lc (am_us μ 21 (μ 21 0)) = hG σ sr ln Lc μ := rfl
section RS
variable {xs : Nat → Int32} {LL : Nat} {σ μ : Nat → Nat → Int32} {sr : Nat → Nat} {ln : Nat → Nat → Int32} {Lc : Nat}
theorem sp_X12_sheet_no (d : Nat) (q k n : Int32) (hq : am_in q 4 = false) : am_X xs LL (d + 3) 203 [.ref 47, .int q, .int k, .int n] (hG σ sr ln Lc μ) (some (.int (-2))) (hG σ sr ln Lc μ) := by
  refine am_XR (d := d + 2) (C := cd_X12_sheet) (L := [some (.ref 47), some (.int q), some (.int k), some (.int n), none]) rfl rfl rfl rfl ?_
  refine am_g 1 1 [some (.ref 47), some (.int q), some (.int k), some (.int n), none] [.int q] (hG σ sr ln Lc μ) rfl ?_
  refine am_call (y := 202) (vs := [.int q]) (rest := []) (v := (some (.int 0))) (h1 := (hG σ sr ln Lc μ)) rfl rfl rfl (sp_X12_isSheet d _ _ hq) ?_
  refine am_g 2 33 [some (.ref 47), some (.int q), some (.int k), some (.int n), none] [.int (-2)] (hG σ sr ln Lc μ) rfl ?_
  exact am_ret2 rfl rfl rfl rfl rfl
theorem sp_X12_sheet_bad (d : Nat) (s : Nat) (hs : s < 4) (k n : Int32) (hk3 : am_in1 k 3 = false) : am_X xs LL (d + 3) 203 [.ref 47, .int (nI s), .int k, .int n] (hG σ sr ln Lc μ) (some (.int (-2))) (hG σ sr ln Lc μ) := by
  refine am_XR (d := d + 2) (C := cd_X12_sheet) (L := [some (.ref 47), some (.int (nI s)), some (.int k), some (.int n), none]) rfl rfl rfl rfl ?_
  refine am_g 1 1 [some (.ref 47), some (.int (nI s)), some (.int k), some (.int n), none] [.int (nI s)] (hG σ sr ln Lc μ) rfl ?_
  refine am_call (y := 202) (vs := [.int (nI s)]) (rest := []) (v := (some (.int 1))) (h1 := (hG σ sr ln Lc μ)) rfl rfl rfl (sp_X12_isSheet d _ _ (am_in_of_nI hs (by omega))) ?_
  refine am_g 5 15 [some (.ref 47), some (.int (nI s)), some (.int k), some (.int n), none] [.long 2, .long (-1), .long (k.toInt64)] (hG σ sr ln Lc μ) rfl ?_
  refine am_call (y := 140) (vs := [.long (k.toInt64), .long (-1), .long 2]) (rest := []) (v := (some (.int 0))) (h1 := (hG σ sr ln Lc μ)) rfl rfl rfl (sp_X12_in_b (d + 1) _ _ _ _ ((am_in1c (n := 3) (by decide)).trans hk3)) ?_
  refine am_g 2 33 [some (.ref 47), some (.int (nI s)), some (.int k), some (.int n), none] [.int (-2)] (hG σ sr ln Lc μ) rfl ?_
  exact am_ret2 rfl rfl rfl rfl rfl
theorem sp_X12_sheet_big (d : Nat) (s : Nat) (hs : s < 4) (k n : Int32) (hk3 : am_in1 k 3 = true) (hk : ¬ k < 0) (hn : ¬ n ≤ 40) : am_X xs LL (d + 3) 203 [.ref 47, .int (nI s), .int k, .int n] (hG σ sr ln Lc μ) (some (.int (-2))) (hG σ sr ln Lc μ) := by
  refine am_XR (d := d + 2) (C := cd_X12_sheet) (L := [some (.ref 47), some (.int (nI s)), some (.int k), some (.int n), none]) rfl rfl rfl rfl ?_
  refine am_g 1 1 [some (.ref 47), some (.int (nI s)), some (.int k), some (.int n), none] [.int (nI s)] (hG σ sr ln Lc μ) rfl ?_
  refine am_call (y := 202) (vs := [.int (nI s)]) (rest := []) (v := (some (.int 1))) (h1 := (hG σ sr ln Lc μ)) rfl rfl rfl (sp_X12_isSheet d _ _ (am_in_of_nI hs (by omega))) ?_
  refine am_g 5 15 [some (.ref 47), some (.int (nI s)), some (.int k), some (.int n), none] [.long 2, .long (-1), .long (k.toInt64)] (hG σ sr ln Lc μ) rfl ?_
  refine am_call (y := 140) (vs := [.long (k.toInt64), .long (-1), .long 2]) (rest := []) (v := (some (.int 1))) (h1 := (hG σ sr ln Lc μ)) rfl rfl rfl (sp_X12_in_b (d + 1) _ _ _ _ ((am_in1c (n := 3) (by decide)).trans hk3)) ?_
  refine am_g 3 (if k < 0 then 34 else 25) [some (.ref 47), some (.int (nI s)), some (.int k), some (.int n), none] [] (hG σ sr ln Lc μ) rfl ?_
  rw [if_neg (show ¬ k < 0 from hk)]
  refine am_g 3 (if n ≤ 40 then 34 else 31) [some (.ref 47), some (.int (nI s)), some (.int k), some (.int n), none] [] (hG σ sr ln Lc μ) rfl ?_
  rw [if_neg (show ¬ n ≤ 40 from hn)]
  refine am_g 1 33 [some (.ref 47), some (.int (nI s)), some (.int k), some (.int n), none] [.int (-2)] (hG σ sr ln Lc μ) rfl ?_
  exact am_ret2 rfl rfl rfl rfl rfl
theorem sp_X12_sheet_neg (d : Nat) (s : Nat) (hs : s < 4) (k n : Int32) (hk3 : am_in1 k 3 = true) (hk : ¬ k < 0) (hn : n ≤ 40) (hn0 : ¬ 0 ≤ n) : am_X xs LL (d + 3) 203 [.ref 47, .int (nI s), .int k, .int n] (hG σ sr ln Lc μ) (some (.int (-14))) (hG σ sr ln Lc μ) := by
  refine am_XR (d := d + 2) (C := cd_X12_sheet) (L := [some (.ref 47), some (.int (nI s)), some (.int k), some (.int n), none]) rfl rfl rfl rfl ?_
  refine am_g 1 1 [some (.ref 47), some (.int (nI s)), some (.int k), some (.int n), none] [.int (nI s)] (hG σ sr ln Lc μ) rfl ?_
  refine am_call (y := 202) (vs := [.int (nI s)]) (rest := []) (v := (some (.int 1))) (h1 := (hG σ sr ln Lc μ)) rfl rfl rfl (sp_X12_isSheet d _ _ (am_in_of_nI hs (by omega))) ?_
  refine am_g 5 15 [some (.ref 47), some (.int (nI s)), some (.int k), some (.int n), none] [.long 2, .long (-1), .long (k.toInt64)] (hG σ sr ln Lc μ) rfl ?_
  refine am_call (y := 140) (vs := [.long (k.toInt64), .long (-1), .long 2]) (rest := []) (v := (some (.int 1))) (h1 := (hG σ sr ln Lc μ)) rfl rfl rfl (sp_X12_in_b (d + 1) _ _ _ _ ((am_in1c (n := 3) (by decide)).trans hk3)) ?_
  refine am_g 3 (if k < 0 then 34 else 25) [some (.ref 47), some (.int (nI s)), some (.int k), some (.int n), none] [] (hG σ sr ln Lc μ) rfl ?_
  rw [if_neg (show ¬ k < 0 from hk)]
  refine am_g 3 (if n ≤ 40 then 34 else 31) [some (.ref 47), some (.int (nI s)), some (.int k), some (.int n), none] [] (hG σ sr ln Lc μ) rfl ?_
  rw [if_pos (show n ≤ 40 from hn)]
  refine am_g 2 (if k < 0 then 45 else 38) [some (.ref 47), some (.int (nI s)), some (.int k), some (.int n), none] [] (hG σ sr ln Lc μ) rfl ?_
  rw [if_neg (show ¬ k < 0 from hk)]
  refine am_g 2 (if 0 ≤ n then 45 else 42) [some (.ref 47), some (.int (nI s)), some (.int k), some (.int n), none] [] (hG σ sr ln Lc μ) rfl ?_
  rw [if_neg (show ¬ 0 ≤ n from hn0)]
  refine am_g 1 44 [some (.ref 47), some (.int (nI s)), some (.int k), some (.int n), none] [.int (-14)] (hG σ sr ln Lc μ) rfl ?_
  exact am_ret2 rfl rfl rfl rfl rfl
theorem sp_X12_sheet_q (d : Nat) (s : Nat) (hs : s < 4) (k n : Int32) (hk3 : am_in1 k 3 = true) (hk : ¬ k < 0) (hn : n ≤ 40) (hn0 : 0 ≤ n) : am_X xs LL (d + 3) 203 [.ref 47, .int (nI s), .int k, .int n] (hG σ sr ln Lc μ) (some (.int 1)) (hG σ sr ln Lc (am_up (am_up (am_up (am_up μ 33 (upd (μ 33) s (vp_nar .boolean 1))) 34 (upd (μ 34) s k)) 35 (upd (μ 35) s n)) 36 (am_it (fun i F => upd F (40 * s + i) 0) (μ 36) 40))) := by
  refine am_XR (d := d + 2) (C := cd_X12_sheet) (L := [some (.ref 47), some (.int (nI s)), some (.int k), some (.int n), none]) rfl rfl rfl rfl ?_
  refine am_g 1 1 [some (.ref 47), some (.int (nI s)), some (.int k), some (.int n), none] [.int (nI s)] (hG σ sr ln Lc μ) rfl ?_
  refine am_call (y := 202) (vs := [.int (nI s)]) (rest := []) (v := (some (.int 1))) (h1 := (hG σ sr ln Lc μ)) rfl rfl rfl (sp_X12_isSheet d _ _ (am_in_of_nI hs (by omega))) ?_
  refine am_g 5 15 [some (.ref 47), some (.int (nI s)), some (.int k), some (.int n), none] [.long 2, .long (-1), .long (k.toInt64)] (hG σ sr ln Lc μ) rfl ?_
  refine am_call (y := 140) (vs := [.long (k.toInt64), .long (-1), .long 2]) (rest := []) (v := (some (.int 1))) (h1 := (hG σ sr ln Lc μ)) rfl rfl rfl (sp_X12_in_b (d + 1) _ _ _ _ ((am_in1c (n := 3) (by decide)).trans hk3)) ?_
  refine am_g 3 (if k < 0 then 34 else 25) [some (.ref 47), some (.int (nI s)), some (.int k), some (.int n), none] [] (hG σ sr ln Lc μ) rfl ?_
  rw [if_neg (show ¬ k < 0 from hk)]
  refine am_g 3 (if n ≤ 40 then 34 else 31) [some (.ref 47), some (.int (nI s)), some (.int k), some (.int n), none] [] (hG σ sr ln Lc μ) rfl ?_
  rw [if_pos (show n ≤ 40 from hn)]
  refine am_g 2 (if k < 0 then 45 else 38) [some (.ref 47), some (.int (nI s)), some (.int k), some (.int n), none] [] (hG σ sr ln Lc μ) rfl ?_
  rw [if_neg (show ¬ k < 0 from hk)]
  refine am_g 2 (if 0 ≤ n then 45 else 42) [some (.ref 47), some (.int (nI s)), some (.int k), some (.int n), none] [] (hG σ sr ln Lc μ) rfl ?_
  rw [if_pos (show 0 ≤ n from hn0)]
  refine am_g 5 (if k < 0 then 58 else 54) [some (.ref 47), some (.int (nI s)), some (.int k), some (.int n), none] [.int (nI s), .ref 71] (hG σ sr ln Lc μ) rfl ?_
  rw [if_neg (show ¬ k < 0 from hk)]
  refine am_g 2 59 [some (.ref 47), some (.int (nI s)), some (.int k), some (.int n), none] [.int 1, .int (nI s), .ref 71] (hG σ sr ln Lc μ) rfl ?_
  refine am_bastR (n := 4) (f := (μ 33)) (k := s) (h1 := (hG σ sr ln Lc (am_up μ 33 (upd (μ 33) s (vp_nar .boolean 1))))) rfl rfl (rfl) (by omega) (by decide) rfl ?_
  refine am_g 4 66 [some (.ref 47), some (.int (nI s)), some (.int k), some (.int n), none] [.int k, .int (nI s), .ref 72] (hG σ sr ln Lc (am_up μ 33 (upd (μ 33) s (vp_nar .boolean 1)))) rfl ?_
  refine am_iastR (n := 4) (f := (μ 34)) (k := s) (h1 := (hG σ sr ln Lc (am_up (am_up μ 33 (upd (μ 33) s (vp_nar .boolean 1))) 34 (upd (μ 34) s k)))) rfl rfl (rfl) (by omega) (by decide) rfl ?_
  refine am_g 5 (if k < 0 then 80 else 76) [some (.ref 47), some (.int (nI s)), some (.int k), some (.int n), none] [.int (nI s), .ref 73] (hG σ sr ln Lc (am_up (am_up μ 33 (upd (μ 33) s (vp_nar .boolean 1))) 34 (upd (μ 34) s k))) rfl ?_
  rw [if_neg (show ¬ k < 0 from hk)]
  refine am_g 2 81 [some (.ref 47), some (.int (nI s)), some (.int k), some (.int n), none] [.int n, .int (nI s), .ref 73] (hG σ sr ln Lc (am_up (am_up μ 33 (upd (μ 33) s (vp_nar .boolean 1))) 34 (upd (μ 34) s k))) rfl ?_
  refine am_iastR (n := 4) (f := (μ 35)) (k := s) (h1 := (hG σ sr ln Lc (am_up (am_up (am_up μ 33 (upd (μ 33) s (vp_nar .boolean 1))) 34 (upd (μ 34) s k)) 35 (upd (μ 35) s n)))) rfl rfl (rfl) (by omega) (by decide) rfl ?_
  refine am_g 2 85 [some (.ref 47), some (.int (nI s)), some (.int k), some (.int n), some (.int 0)] [] (hG σ sr ln Lc (am_up (am_up (am_up μ 33 (upd (μ 33) s (vp_nar .boolean 1))) 34 (upd (μ 34) s k)) 35 (upd (μ 35) s n))) rfl ?_
  have lp : ∀ (r i : Nat), i + r = 40 → am_R xs LL cd_X12_sheet (am_X xs LL (d + 2)) 85 [some (.ref 47), some (.int (nI s)), some (.int k), some (.int n), some (.int (nI i))] [] (hG σ sr ln Lc (am_up (am_up (am_up (am_up μ 33 (upd (μ 33) s (vp_nar .boolean 1))) 34 (upd (μ 34) s k)) 35 (upd (μ 35) s n)) 36 (am_it (fun i F => upd F (40 * s + i) 0) (μ 36) i))) (some (.int 1)) (hG σ sr ln Lc (am_up (am_up (am_up (am_up μ 33 (upd (μ 33) s (vp_nar .boolean 1))) 34 (upd (μ 34) s k)) 35 (upd (μ 35) s n)) 36 (am_it (fun i F => upd F (40 * s + i) 0) (μ 36) 40))) := by
    intro r
    induction r with
    | zero =>
      intro i  hi
      have hi2 : i = 40 := by omega
      rw [hi2]
      refine am_g 3 (if 40 ≤ (nI 40) then 111 else 92) [some (.ref 47), some (.int (nI s)), some (.int k), some (.int n), some (.int (nI 40))] [] (hG σ sr ln Lc (am_up (am_up (am_up (am_up μ 33 (upd (μ 33) s (vp_nar .boolean 1))) 34 (upd (μ 34) s k)) 35 (upd (μ 35) s n)) 36 (am_it (fun i F => upd F (40 * s + i) 0) (μ 36) 40))) rfl ?_
      rw [if_pos (show 40 ≤ (nI 40) from (am_dle (a := 40) (b := 40) (rfl) (rfl) (by omega) (by omega) (by omega)))]
      refine am_g 1 112 [some (.ref 47), some (.int (nI s)), some (.int k), some (.int n), some (.int (nI 40))] [.int 1] (hG σ sr ln Lc (am_up (am_up (am_up (am_up μ 33 (upd (μ 33) s (vp_nar .boolean 1))) 34 (upd (μ 34) s k)) 35 (upd (μ 35) s n)) 36 (am_it (fun i F => upd F (40 * s + i) 0) (μ 36) 40))) rfl ?_
      exact am_ret2 rfl rfl rfl rfl rfl
    | succ r ih =>
      intro i  hi
      have hi2 : i < 40 := by omega
      refine am_g 3 (if 40 ≤ (nI i) then 111 else 92) [some (.ref 47), some (.int (nI s)), some (.int k), some (.int n), some (.int (nI i))] [] (hG σ sr ln Lc (am_up (am_up (am_up (am_up μ 33 (upd (μ 33) s (vp_nar .boolean 1))) 34 (upd (μ 34) s k)) 35 (upd (μ 35) s n)) 36 (am_it (fun i F => upd F (40 * s + i) 0) (μ 36) i))) rfl ?_
      rw [if_neg (show ¬ 40 ≤ (nI i) from (am_dnle (a := 40) (b := i) (rfl) (rfl) (by omega) (by omega) (by omega)))]
      refine am_g 8 104 [some (.ref 47), some (.int (nI s)), some (.int k), some (.int n), some (.int (nI i))] [.int 0, .int ((40 * (nI s)) + (nI i)), .ref 74] (hG σ sr ln Lc (am_up (am_up (am_up (am_up μ 33 (upd (μ 33) s (vp_nar .boolean 1))) 34 (upd (μ 34) s k)) 35 (upd (μ 35) s n)) 36 (am_it (fun i F => upd F (40 * s + i) 0) (μ 36) i))) rfl ?_
      refine am_iastR (n := 160) (f := (am_it (fun i F => upd F (40 * s + i) 0) (μ 36) i)) (k := ((40 * s) + i)) (h1 := (hG σ sr ln Lc (am_up (am_up (am_up (am_up μ 33 (upd (μ 33) s (vp_nar .boolean 1))) 34 (upd (μ 34) s k)) 35 (upd (μ 35) s n)) 36 (upd (am_it (fun i F => upd F (40 * s + i) 0) (μ 36) i) ((40 * s) + i) 0)))) rfl rfl (show (((nI 40) * (nI s)) + (nI i)) = nI ((40 * s) + i) from by first | (simp only [nI_mul2, nI_add]; done) | (simp only [nI_mul2, nI_add]; exact congrArg nI (by omega))) (by omega) (by decide) rfl ?_
      refine am_g 2 85 [some (.ref 47), some (.int (nI s)), some (.int k), some (.int n), some (.int ((nI i) + 1))] [] (hG σ sr ln Lc (am_up (am_up (am_up (am_up μ 33 (upd (μ 33) s (vp_nar .boolean 1))) 34 (upd (μ 34) s k)) 35 (upd (μ 35) s n)) 36 (upd (am_it (fun i F => upd F (40 * s + i) 0) (μ 36) i) ((40 * s) + i) 0))) rfl ?_
      rw [nI_up, ← (show (am_it (fun i F => upd F (40 * s + i) 0) (μ 36) (i + 1)) = (upd (am_it (fun i F => upd F (40 * s + i) 0) (μ 36) i) ((40 * s) + i) 0) from rfl)]
      exact ih (i + 1) (by omega)
  exact lp 40 0 (by omega)
theorem sp_X12_sheet_m (d : Nat) (s : Nat) (hs : s < 4) (n : Int32) : am_X xs LL (d + 3) 203 [.ref 47, .int (nI s), .int (-1), .int n] (hG σ sr ln Lc μ) (some (.int 1)) (hG σ sr ln Lc (am_up (am_up (am_up (am_up μ 33 (upd (μ 33) s (vp_nar .boolean 0))) 34 (upd (μ 34) s (-1))) 35 (upd (μ 35) s 0)) 36 (am_it (fun i F => upd F (40 * s + i) 0) (μ 36) 40))) := by
  refine am_XR (d := d + 2) (C := cd_X12_sheet) (L := [some (.ref 47), some (.int (nI s)), some (.int (-1)), some (.int n), none]) rfl rfl rfl rfl ?_
  refine am_g 1 1 [some (.ref 47), some (.int (nI s)), some (.int (-1)), some (.int n), none] [.int (nI s)] (hG σ sr ln Lc μ) rfl ?_
  refine am_call (y := 202) (vs := [.int (nI s)]) (rest := []) (v := (some (.int 1))) (h1 := (hG σ sr ln Lc μ)) rfl rfl rfl (sp_X12_isSheet d _ _ (am_in_of_nI hs (by omega))) ?_
  refine am_g 5 15 [some (.ref 47), some (.int (nI s)), some (.int (-1)), some (.int n), none] [.long 2, .long (-1), .long (((-1) : Int32).toInt64)] (hG σ sr ln Lc μ) rfl ?_
  refine am_call (y := 140) (vs := [.long (((-1) : Int32).toInt64), .long (-1), .long 2]) (rest := []) (v := (some (.int 1))) (h1 := (hG σ sr ln Lc μ)) rfl rfl rfl (sp_X12_in_b (d + 1) _ _ _ _ (show decide ((-1 : Int64) ≤ (-1 : Int32).toInt64 ∧ (-1 : Int32).toInt64 ≤ 2) = true from by decide)) ?_
  refine am_g 11 59 [some (.ref 47), some (.int (nI s)), some (.int (-1)), some (.int n), none] [.int 0, .int (nI s), .ref 71] (hG σ sr ln Lc μ) rfl ?_
  refine am_bastR (n := 4) (f := (μ 33)) (k := s) (h1 := (hG σ sr ln Lc (am_up μ 33 (upd (μ 33) s (vp_nar .boolean 0))))) rfl rfl (rfl) (by omega) (by decide) rfl ?_
  refine am_g 4 66 [some (.ref 47), some (.int (nI s)), some (.int (-1)), some (.int n), none] [.int (-1), .int (nI s), .ref 72] (hG σ sr ln Lc (am_up μ 33 (upd (μ 33) s (vp_nar .boolean 0)))) rfl ?_
  refine am_iastR (n := 4) (f := (μ 34)) (k := s) (h1 := (hG σ sr ln Lc (am_up (am_up μ 33 (upd (μ 33) s (vp_nar .boolean 0))) 34 (upd (μ 34) s (-1))))) rfl rfl (rfl) (by omega) (by decide) rfl ?_
  refine am_g 6 81 [some (.ref 47), some (.int (nI s)), some (.int (-1)), some (.int n), none] [.int 0, .int (nI s), .ref 73] (hG σ sr ln Lc (am_up (am_up μ 33 (upd (μ 33) s (vp_nar .boolean 0))) 34 (upd (μ 34) s (-1)))) rfl ?_
  refine am_iastR (n := 4) (f := (μ 35)) (k := s) (h1 := (hG σ sr ln Lc (am_up (am_up (am_up μ 33 (upd (μ 33) s (vp_nar .boolean 0))) 34 (upd (μ 34) s (-1))) 35 (upd (μ 35) s 0)))) rfl rfl (rfl) (by omega) (by decide) rfl ?_
  refine am_g 2 85 [some (.ref 47), some (.int (nI s)), some (.int (-1)), some (.int n), some (.int 0)] [] (hG σ sr ln Lc (am_up (am_up (am_up μ 33 (upd (μ 33) s (vp_nar .boolean 0))) 34 (upd (μ 34) s (-1))) 35 (upd (μ 35) s 0))) rfl ?_
  have lp : ∀ (r i : Nat), i + r = 40 → am_R xs LL cd_X12_sheet (am_X xs LL (d + 2)) 85 [some (.ref 47), some (.int (nI s)), some (.int (-1)), some (.int n), some (.int (nI i))] [] (hG σ sr ln Lc (am_up (am_up (am_up (am_up μ 33 (upd (μ 33) s (vp_nar .boolean 0))) 34 (upd (μ 34) s (-1))) 35 (upd (μ 35) s 0)) 36 (am_it (fun i F => upd F (40 * s + i) 0) (μ 36) i))) (some (.int 1)) (hG σ sr ln Lc (am_up (am_up (am_up (am_up μ 33 (upd (μ 33) s (vp_nar .boolean 0))) 34 (upd (μ 34) s (-1))) 35 (upd (μ 35) s 0)) 36 (am_it (fun i F => upd F (40 * s + i) 0) (μ 36) 40))) := by
    intro r
    induction r with
    | zero =>
      intro i  hi
      have hi2 : i = 40 := by omega
      rw [hi2]
      refine am_g 3 (if 40 ≤ (nI 40) then 111 else 92) [some (.ref 47), some (.int (nI s)), some (.int (-1)), some (.int n), some (.int (nI 40))] [] (hG σ sr ln Lc (am_up (am_up (am_up (am_up μ 33 (upd (μ 33) s (vp_nar .boolean 0))) 34 (upd (μ 34) s (-1))) 35 (upd (μ 35) s 0)) 36 (am_it (fun i F => upd F (40 * s + i) 0) (μ 36) 40))) rfl ?_
      rw [if_pos (show 40 ≤ (nI 40) from (am_dle (a := 40) (b := 40) (rfl) (rfl) (by omega) (by omega) (by omega)))]
      refine am_g 1 112 [some (.ref 47), some (.int (nI s)), some (.int (-1)), some (.int n), some (.int (nI 40))] [.int 1] (hG σ sr ln Lc (am_up (am_up (am_up (am_up μ 33 (upd (μ 33) s (vp_nar .boolean 0))) 34 (upd (μ 34) s (-1))) 35 (upd (μ 35) s 0)) 36 (am_it (fun i F => upd F (40 * s + i) 0) (μ 36) 40))) rfl ?_
      exact am_ret2 rfl rfl rfl rfl rfl
    | succ r ih =>
      intro i  hi
      have hi2 : i < 40 := by omega
      refine am_g 3 (if 40 ≤ (nI i) then 111 else 92) [some (.ref 47), some (.int (nI s)), some (.int (-1)), some (.int n), some (.int (nI i))] [] (hG σ sr ln Lc (am_up (am_up (am_up (am_up μ 33 (upd (μ 33) s (vp_nar .boolean 0))) 34 (upd (μ 34) s (-1))) 35 (upd (μ 35) s 0)) 36 (am_it (fun i F => upd F (40 * s + i) 0) (μ 36) i))) rfl ?_
      rw [if_neg (show ¬ 40 ≤ (nI i) from (am_dnle (a := 40) (b := i) (rfl) (rfl) (by omega) (by omega) (by omega)))]
      refine am_g 8 104 [some (.ref 47), some (.int (nI s)), some (.int (-1)), some (.int n), some (.int (nI i))] [.int 0, .int ((40 * (nI s)) + (nI i)), .ref 74] (hG σ sr ln Lc (am_up (am_up (am_up (am_up μ 33 (upd (μ 33) s (vp_nar .boolean 0))) 34 (upd (μ 34) s (-1))) 35 (upd (μ 35) s 0)) 36 (am_it (fun i F => upd F (40 * s + i) 0) (μ 36) i))) rfl ?_
      refine am_iastR (n := 160) (f := (am_it (fun i F => upd F (40 * s + i) 0) (μ 36) i)) (k := ((40 * s) + i)) (h1 := (hG σ sr ln Lc (am_up (am_up (am_up (am_up μ 33 (upd (μ 33) s (vp_nar .boolean 0))) 34 (upd (μ 34) s (-1))) 35 (upd (μ 35) s 0)) 36 (upd (am_it (fun i F => upd F (40 * s + i) 0) (μ 36) i) ((40 * s) + i) 0)))) rfl rfl (show (((nI 40) * (nI s)) + (nI i)) = nI ((40 * s) + i) from by first | (simp only [nI_mul2, nI_add]; done) | (simp only [nI_mul2, nI_add]; exact congrArg nI (by omega))) (by omega) (by decide) rfl ?_
      refine am_g 2 85 [some (.ref 47), some (.int (nI s)), some (.int (-1)), some (.int n), some (.int ((nI i) + 1))] [] (hG σ sr ln Lc (am_up (am_up (am_up (am_up μ 33 (upd (μ 33) s (vp_nar .boolean 0))) 34 (upd (μ 34) s (-1))) 35 (upd (μ 35) s 0)) 36 (upd (am_it (fun i F => upd F (40 * s + i) 0) (μ 36) i) ((40 * s) + i) 0))) rfl ?_
      rw [nI_up, ← (show (am_it (fun i F => upd F (40 * s + i) 0) (μ 36) (i + 1)) = (upd (am_it (fun i F => upd F (40 * s + i) 0) (μ 36) i) ((40 * s) + i) 0) from rfl)]
      exact ih (i + 1) (by omega)
  exact lp 40 0 (by omega)
theorem sp_X12_cell_no (d : Nat) (q i v : Int32) (hq : am_in q 4 = false) : am_X xs LL (d + 3) 204 [.ref 47, .int q, .int i, .int v] (hG σ sr ln Lc μ) (some (.int (-2))) (hG σ sr ln Lc μ) := by
  refine am_XR (d := d + 2) (C := cd_X12_cell) (L := [some (.ref 47), some (.int q), some (.int i), some (.int v)]) rfl rfl rfl rfl ?_
  refine am_g 1 1 [some (.ref 47), some (.int q), some (.int i), some (.int v)] [.int q] (hG σ sr ln Lc μ) rfl ?_
  refine am_call (y := 202) (vs := [.int q]) (rest := []) (v := (some (.int 0))) (h1 := (hG σ sr ln Lc μ)) rfl rfl rfl (sp_X12_isSheet d _ _ hq) ?_
  refine am_g 2 9 [some (.ref 47), some (.int q), some (.int i), some (.int v)] [.int (-2)] (hG σ sr ln Lc μ) rfl ?_
  exact am_ret2 rfl rfl rfl rfl rfl
theorem sp_X12_cell_m (d : Nat) (s : Nat) (hs : s < 4) (i v : Int32) (h : μ 33 s = 0) : am_X xs LL (d + 3) 204 [.ref 47, .int (nI s), .int i, .int v] (hG σ sr ln Lc μ) (some (.int (-11))) (hG σ sr ln Lc μ) := by
  refine am_XR (d := d + 2) (C := cd_X12_cell) (L := [some (.ref 47), some (.int (nI s)), some (.int i), some (.int v)]) rfl rfl rfl rfl ?_
  refine am_g 1 1 [some (.ref 47), some (.int (nI s)), some (.int i), some (.int v)] [.int (nI s)] (hG σ sr ln Lc μ) rfl ?_
  refine am_call (y := 202) (vs := [.int (nI s)]) (rest := []) (v := (some (.int 1))) (h1 := (hG σ sr ln Lc μ)) rfl rfl rfl (sp_X12_isSheet d _ _ (am_in_of_nI hs (by omega))) ?_
  refine am_g 4 15 [some (.ref 47), some (.int (nI s)), some (.int i), some (.int v)] [.int (nI s), .ref 71] (hG σ sr ln Lc μ) rfl ?_
  refine am_baldV (n := 4) (f := (μ 33)) (k := s) (w := 0) rfl rfl (rfl) (by omega) (by decide) (h) ?_
  refine am_g 2 21 [some (.ref 47), some (.int (nI s)), some (.int i), some (.int v)] [.int (-11)] (hG σ sr ln Lc μ) rfl ?_
  exact am_ret2 rfl rfl rfl rfl rfl
theorem sp_X12_cell_o (d : Nat) (s : Nat) (hs : s < 4) (i v : Int32) (h : μ 33 s = 1) {z : Nat} (hz : μ 35 s = nI z) (hz40 : z ≤ 40) (hi : am_in i z = false) : am_X xs LL (d + 3) 204 [.ref 47, .int (nI s), .int i, .int v] (hG σ sr ln Lc μ) (some (.int (-12))) (hG σ sr ln Lc μ) := by
  refine am_XR (d := d + 2) (C := cd_X12_cell) (L := [some (.ref 47), some (.int (nI s)), some (.int i), some (.int v)]) rfl rfl rfl rfl ?_
  refine am_g 1 1 [some (.ref 47), some (.int (nI s)), some (.int i), some (.int v)] [.int (nI s)] (hG σ sr ln Lc μ) rfl ?_
  refine am_call (y := 202) (vs := [.int (nI s)]) (rest := []) (v := (some (.int 1))) (h1 := (hG σ sr ln Lc μ)) rfl rfl rfl (sp_X12_isSheet d _ _ (am_in_of_nI hs (by omega))) ?_
  refine am_g 4 15 [some (.ref 47), some (.int (nI s)), some (.int i), some (.int v)] [.int (nI s), .ref 71] (hG σ sr ln Lc μ) rfl ?_
  refine am_baldV (n := 4) (f := (μ 33)) (k := s) (w := 1) rfl rfl (rfl) (by omega) (by decide) (h) ?_
  refine am_g 7 30 [some (.ref 47), some (.int (nI s)), some (.int i), some (.int v)] [.int (nI s), .ref 73, .long 0, .long (i.toInt64)] (hG σ sr ln Lc μ) rfl ?_
  refine am_ialdV (n := 4) (f := (μ 35)) (k := s) (w := (nI z)) rfl rfl (rfl) (by omega) (by decide) (hz) ?_
  refine am_g 3 34 [some (.ref 47), some (.int (nI s)), some (.int i), some (.int v)] [.long (((nI z) - 1).toInt64), .long 0, .long (i.toInt64)] (hG σ sr ln Lc μ) rfl ?_
  refine am_call (y := 140) (vs := [.long (i.toInt64), .long 0, .long (((nI z) - 1).toInt64)]) (rest := []) (v := (some (.int 0))) (h1 := (hG σ sr ln Lc μ)) rfl rfl rfl (sp_X12_in_b (d + 1) _ _ _ _ ((am_in64 (by omega)).trans hi)) ?_
  refine am_g 2 42 [some (.ref 47), some (.int (nI s)), some (.int i), some (.int v)] [.int (-12)] (hG σ sr ln Lc μ) rfl ?_
  exact am_ret2 rfl rfl rfl rfl rfl
theorem sp_X12_cell_q0 (d : Nat) (s : Nat) (hs : s < 4) (i : Nat) (v : Int32) (h : μ 33 s = 1) {z : Nat} (hz : μ 35 s = nI z) (hz40 : z ≤ 40) (hi : i < z) (hq : μ 34 s = 0) : am_X xs LL (d + 3) 204 [.ref 47, .int (nI s), .int (nI i), .int v] (hG σ sr ln Lc μ) (some (.int 1)) (hG σ sr ln Lc (am_up μ 36 (upd (μ 36) ((40 * s) + i) (v.toInt8.toInt32)))) := by
  refine am_XR (d := d + 2) (C := cd_X12_cell) (L := [some (.ref 47), some (.int (nI s)), some (.int (nI i)), some (.int v)]) rfl rfl rfl rfl ?_
  refine am_g 1 1 [some (.ref 47), some (.int (nI s)), some (.int (nI i)), some (.int v)] [.int (nI s)] (hG σ sr ln Lc μ) rfl ?_
  refine am_call (y := 202) (vs := [.int (nI s)]) (rest := []) (v := (some (.int 1))) (h1 := (hG σ sr ln Lc μ)) rfl rfl rfl (sp_X12_isSheet d _ _ (am_in_of_nI hs (by omega))) ?_
  refine am_g 4 15 [some (.ref 47), some (.int (nI s)), some (.int (nI i)), some (.int v)] [.int (nI s), .ref 71] (hG σ sr ln Lc μ) rfl ?_
  refine am_baldV (n := 4) (f := (μ 33)) (k := s) (w := 1) rfl rfl (rfl) (by omega) (by decide) (h) ?_
  refine am_g 7 30 [some (.ref 47), some (.int (nI s)), some (.int (nI i)), some (.int v)] [.int (nI s), .ref 73, .long 0, .long ((nI i).toInt64)] (hG σ sr ln Lc μ) rfl ?_
  refine am_ialdV (n := 4) (f := (μ 35)) (k := s) (w := (nI z)) rfl rfl (rfl) (by omega) (by decide) (hz) ?_
  refine am_g 3 34 [some (.ref 47), some (.int (nI s)), some (.int (nI i)), some (.int v)] [.long (((nI z) - 1).toInt64), .long 0, .long ((nI i).toInt64)] (hG σ sr ln Lc μ) rfl ?_
  refine am_call (y := 140) (vs := [.long ((nI i).toInt64), .long 0, .long (((nI z) - 1).toInt64)]) (rest := []) (v := (some (.int 1))) (h1 := (hG σ sr ln Lc μ)) rfl rfl rfl (sp_X12_in_b (d + 1) _ _ _ _ ((am_in64 (by omega)).trans (am_in_of_nI hi (by omega)))) ?_
  refine am_g 11 58 [some (.ref 47), some (.int (nI s)), some (.int (nI i)), some (.int v)] [.int (nI s), .ref 72, .int ((40 * (nI s)) + (nI i)), .ref 74] (hG σ sr ln Lc μ) rfl ?_
  refine am_ialdV (n := 4) (f := (μ 34)) (k := s) (w := 0) rfl rfl (rfl) (by omega) (by decide) (hq) ?_
  refine am_g 4 83 [some (.ref 47), some (.int (nI s)), some (.int (nI i)), some (.int v)] [.int (v.toInt8.toInt32), .int ((40 * (nI s)) + (nI i)), .ref 74] (hG σ sr ln Lc μ) rfl ?_
  refine am_iastR (n := 160) (f := (μ 36)) (k := ((40 * s) + i)) (h1 := (hG σ sr ln Lc (am_up μ 36 (upd (μ 36) ((40 * s) + i) (v.toInt8.toInt32))))) rfl rfl (show (((nI 40) * (nI s)) + (nI i)) = nI ((40 * s) + i) from by first | (simp only [nI_mul2, nI_add]; done) | (simp only [nI_mul2, nI_add]; exact congrArg nI (by omega))) (by omega) (by decide) rfl ?_
  refine am_g 1 85 [some (.ref 47), some (.int (nI s)), some (.int (nI i)), some (.int v)] [.int 1] (hG σ sr ln Lc (am_up μ 36 (upd (μ 36) ((40 * s) + i) (v.toInt8.toInt32)))) rfl ?_
  exact am_ret2 rfl rfl rfl rfl rfl
theorem sp_X12_cell_q1 (d : Nat) (s : Nat) (hs : s < 4) (i : Nat) (v : Int32) (h : μ 33 s = 1) {z : Nat} (hz : μ 35 s = nI z) (hz40 : z ≤ 40) (hi : i < z) (hq : μ 34 s = 1) : am_X xs LL (d + 3) 204 [.ref 47, .int (nI s), .int (nI i), .int v] (hG σ sr ln Lc μ) (some (.int 1)) (hG σ sr ln Lc (am_up μ 36 (upd (μ 36) ((40 * s) + i) (v.toInt16.toInt32)))) := by
  refine am_XR (d := d + 2) (C := cd_X12_cell) (L := [some (.ref 47), some (.int (nI s)), some (.int (nI i)), some (.int v)]) rfl rfl rfl rfl ?_
  refine am_g 1 1 [some (.ref 47), some (.int (nI s)), some (.int (nI i)), some (.int v)] [.int (nI s)] (hG σ sr ln Lc μ) rfl ?_
  refine am_call (y := 202) (vs := [.int (nI s)]) (rest := []) (v := (some (.int 1))) (h1 := (hG σ sr ln Lc μ)) rfl rfl rfl (sp_X12_isSheet d _ _ (am_in_of_nI hs (by omega))) ?_
  refine am_g 4 15 [some (.ref 47), some (.int (nI s)), some (.int (nI i)), some (.int v)] [.int (nI s), .ref 71] (hG σ sr ln Lc μ) rfl ?_
  refine am_baldV (n := 4) (f := (μ 33)) (k := s) (w := 1) rfl rfl (rfl) (by omega) (by decide) (h) ?_
  refine am_g 7 30 [some (.ref 47), some (.int (nI s)), some (.int (nI i)), some (.int v)] [.int (nI s), .ref 73, .long 0, .long ((nI i).toInt64)] (hG σ sr ln Lc μ) rfl ?_
  refine am_ialdV (n := 4) (f := (μ 35)) (k := s) (w := (nI z)) rfl rfl (rfl) (by omega) (by decide) (hz) ?_
  refine am_g 3 34 [some (.ref 47), some (.int (nI s)), some (.int (nI i)), some (.int v)] [.long (((nI z) - 1).toInt64), .long 0, .long ((nI i).toInt64)] (hG σ sr ln Lc μ) rfl ?_
  refine am_call (y := 140) (vs := [.long ((nI i).toInt64), .long 0, .long (((nI z) - 1).toInt64)]) (rest := []) (v := (some (.int 1))) (h1 := (hG σ sr ln Lc μ)) rfl rfl rfl (sp_X12_in_b (d + 1) _ _ _ _ ((am_in64 (by omega)).trans (am_in_of_nI hi (by omega)))) ?_
  refine am_g 11 58 [some (.ref 47), some (.int (nI s)), some (.int (nI i)), some (.int v)] [.int (nI s), .ref 72, .int ((40 * (nI s)) + (nI i)), .ref 74] (hG σ sr ln Lc μ) rfl ?_
  refine am_ialdV (n := 4) (f := (μ 34)) (k := s) (w := 1) rfl rfl (rfl) (by omega) (by decide) (hq) ?_
  refine am_g 4 72 [some (.ref 47), some (.int (nI s)), some (.int (nI i)), some (.int v)] [.int (nI s), .ref 72, .int ((40 * (nI s)) + (nI i)), .ref 74] (hG σ sr ln Lc μ) rfl ?_
  refine am_ialdV (n := 4) (f := (μ 34)) (k := s) (w := 1) rfl rfl (rfl) (by omega) (by decide) (hq) ?_
  refine am_g 5 83 [some (.ref 47), some (.int (nI s)), some (.int (nI i)), some (.int v)] [.int (v.toInt16.toInt32), .int ((40 * (nI s)) + (nI i)), .ref 74] (hG σ sr ln Lc μ) rfl ?_
  refine am_iastR (n := 160) (f := (μ 36)) (k := ((40 * s) + i)) (h1 := (hG σ sr ln Lc (am_up μ 36 (upd (μ 36) ((40 * s) + i) (v.toInt16.toInt32))))) rfl rfl (show (((nI 40) * (nI s)) + (nI i)) = nI ((40 * s) + i) from by first | (simp only [nI_mul2, nI_add]; done) | (simp only [nI_mul2, nI_add]; exact congrArg nI (by omega))) (by omega) (by decide) rfl ?_
  refine am_g 1 85 [some (.ref 47), some (.int (nI s)), some (.int (nI i)), some (.int v)] [.int 1] (hG σ sr ln Lc (am_up μ 36 (upd (μ 36) ((40 * s) + i) (v.toInt16.toInt32)))) rfl ?_
  exact am_ret2 rfl rfl rfl rfl rfl
theorem sp_X12_cell_q2 (d : Nat) (s : Nat) (hs : s < 4) (i : Nat) (v : Int32) (h : μ 33 s = 1) {z : Nat} (hz : μ 35 s = nI z) (hz40 : z ≤ 40) (hi : i < z) (hq : μ 34 s = 2) : am_X xs LL (d + 3) 204 [.ref 47, .int (nI s), .int (nI i), .int v] (hG σ sr ln Lc μ) (some (.int 1)) (hG σ sr ln Lc (am_up μ 36 (upd (μ 36) ((40 * s) + i) v))) := by
  refine am_XR (d := d + 2) (C := cd_X12_cell) (L := [some (.ref 47), some (.int (nI s)), some (.int (nI i)), some (.int v)]) rfl rfl rfl rfl ?_
  refine am_g 1 1 [some (.ref 47), some (.int (nI s)), some (.int (nI i)), some (.int v)] [.int (nI s)] (hG σ sr ln Lc μ) rfl ?_
  refine am_call (y := 202) (vs := [.int (nI s)]) (rest := []) (v := (some (.int 1))) (h1 := (hG σ sr ln Lc μ)) rfl rfl rfl (sp_X12_isSheet d _ _ (am_in_of_nI hs (by omega))) ?_
  refine am_g 4 15 [some (.ref 47), some (.int (nI s)), some (.int (nI i)), some (.int v)] [.int (nI s), .ref 71] (hG σ sr ln Lc μ) rfl ?_
  refine am_baldV (n := 4) (f := (μ 33)) (k := s) (w := 1) rfl rfl (rfl) (by omega) (by decide) (h) ?_
  refine am_g 7 30 [some (.ref 47), some (.int (nI s)), some (.int (nI i)), some (.int v)] [.int (nI s), .ref 73, .long 0, .long ((nI i).toInt64)] (hG σ sr ln Lc μ) rfl ?_
  refine am_ialdV (n := 4) (f := (μ 35)) (k := s) (w := (nI z)) rfl rfl (rfl) (by omega) (by decide) (hz) ?_
  refine am_g 3 34 [some (.ref 47), some (.int (nI s)), some (.int (nI i)), some (.int v)] [.long (((nI z) - 1).toInt64), .long 0, .long ((nI i).toInt64)] (hG σ sr ln Lc μ) rfl ?_
  refine am_call (y := 140) (vs := [.long ((nI i).toInt64), .long 0, .long (((nI z) - 1).toInt64)]) (rest := []) (v := (some (.int 1))) (h1 := (hG σ sr ln Lc μ)) rfl rfl rfl (sp_X12_in_b (d + 1) _ _ _ _ ((am_in64 (by omega)).trans (am_in_of_nI hi (by omega)))) ?_
  refine am_g 11 58 [some (.ref 47), some (.int (nI s)), some (.int (nI i)), some (.int v)] [.int (nI s), .ref 72, .int ((40 * (nI s)) + (nI i)), .ref 74] (hG σ sr ln Lc μ) rfl ?_
  refine am_ialdV (n := 4) (f := (μ 34)) (k := s) (w := 2) rfl rfl (rfl) (by omega) (by decide) (hq) ?_
  refine am_g 4 72 [some (.ref 47), some (.int (nI s)), some (.int (nI i)), some (.int v)] [.int (nI s), .ref 72, .int ((40 * (nI s)) + (nI i)), .ref 74] (hG σ sr ln Lc μ) rfl ?_
  refine am_ialdV (n := 4) (f := (μ 34)) (k := s) (w := 2) rfl rfl (rfl) (by omega) (by decide) (hq) ?_
  refine am_g 3 83 [some (.ref 47), some (.int (nI s)), some (.int (nI i)), some (.int v)] [.int v, .int ((40 * (nI s)) + (nI i)), .ref 74] (hG σ sr ln Lc μ) rfl ?_
  refine am_iastR (n := 160) (f := (μ 36)) (k := ((40 * s) + i)) (h1 := (hG σ sr ln Lc (am_up μ 36 (upd (μ 36) ((40 * s) + i) v)))) rfl rfl (show (((nI 40) * (nI s)) + (nI i)) = nI ((40 * s) + i) from by first | (simp only [nI_mul2, nI_add]; done) | (simp only [nI_mul2, nI_add]; exact congrArg nI (by omega))) (by omega) (by decide) rfl ?_
  refine am_g 1 85 [some (.ref 47), some (.int (nI s)), some (.int (nI i)), some (.int v)] [.int 1] (hG σ sr ln Lc (am_up μ 36 (upd (μ 36) ((40 * s) + i) v))) rfl ?_
  exact am_ret2 rfl rfl rfl rfl rfl
theorem sp_X12_copy_b1 (d : Nat) (q i t j n : Int32) (hq : am_in q 4 = false) : am_X xs LL (d + 3) 205 [.ref 47, .int q, .int i, .int t, .int j, .int n] (hG σ sr ln Lc μ) (some (.int (-2))) (hG σ sr ln Lc μ) := by
  refine am_XR (d := d + 2) (C := cd_X12_copy) (L := [some (.ref 47), some (.int q), some (.int i), some (.int t), some (.int j), some (.int n), none, none, none]) rfl rfl rfl rfl ?_
  refine am_g 1 1 [some (.ref 47), some (.int q), some (.int i), some (.int t), some (.int j), some (.int n), none, none, none] [.int q] (hG σ sr ln Lc μ) rfl ?_
  refine am_call (y := 202) (vs := [.int q]) (rest := []) (v := (some (.int 0))) (h1 := (hG σ sr ln Lc μ)) rfl rfl rfl (sp_X12_isSheet d _ _ hq) ?_
  refine am_g 2 16 [some (.ref 47), some (.int q), some (.int i), some (.int t), some (.int j), some (.int n), none, none, none] [.int (-2)] (hG σ sr ln Lc μ) rfl ?_
  exact am_ret2 rfl rfl rfl rfl rfl
theorem sp_X12_copy_b2 (d : Nat) (s : Nat) (hs : s < 4) (i t j n : Int32) (hq : am_in t 4 = false) : am_X xs LL (d + 3) 205 [.ref 47, .int (nI s), .int i, .int t, .int j, .int n] (hG σ sr ln Lc μ) (some (.int (-2))) (hG σ sr ln Lc μ) := by
  refine am_XR (d := d + 2) (C := cd_X12_copy) (L := [some (.ref 47), some (.int (nI s)), some (.int i), some (.int t), some (.int j), some (.int n), none, none, none]) rfl rfl rfl rfl ?_
  refine am_g 1 1 [some (.ref 47), some (.int (nI s)), some (.int i), some (.int t), some (.int j), some (.int n), none, none, none] [.int (nI s)] (hG σ sr ln Lc μ) rfl ?_
  refine am_call (y := 202) (vs := [.int (nI s)]) (rest := []) (v := (some (.int 1))) (h1 := (hG σ sr ln Lc μ)) rfl rfl rfl (sp_X12_isSheet d _ _ (am_in_of_nI hs (by omega))) ?_
  refine am_g 2 8 [some (.ref 47), some (.int (nI s)), some (.int i), some (.int t), some (.int j), some (.int n), none, none, none] [.int t] (hG σ sr ln Lc μ) rfl ?_
  refine am_call (y := 202) (vs := [.int t]) (rest := []) (v := (some (.int 0))) (h1 := (hG σ sr ln Lc μ)) rfl rfl rfl (sp_X12_isSheet d _ _ hq) ?_
  refine am_g 2 16 [some (.ref 47), some (.int (nI s)), some (.int i), some (.int t), some (.int j), some (.int n), none, none, none] [.int (-2)] (hG σ sr ln Lc μ) rfl ?_
  exact am_ret2 rfl rfl rfl rfl rfl
theorem sp_X12_copy_m1 (d : Nat) (s : Nat) (hs : s < 4) (t : Nat) (ht : t < 4) (i j n : Int32) (h : μ 33 s = 0) : am_X xs LL (d + 3) 205 [.ref 47, .int (nI s), .int i, .int (nI t), .int j, .int n] (hG σ sr ln Lc μ) (some (.int (-11))) (hG σ sr ln Lc μ) := by
  refine am_XR (d := d + 2) (C := cd_X12_copy) (L := [some (.ref 47), some (.int (nI s)), some (.int i), some (.int (nI t)), some (.int j), some (.int n), none, none, none]) rfl rfl rfl rfl ?_
  refine am_g 1 1 [some (.ref 47), some (.int (nI s)), some (.int i), some (.int (nI t)), some (.int j), some (.int n), none, none, none] [.int (nI s)] (hG σ sr ln Lc μ) rfl ?_
  refine am_call (y := 202) (vs := [.int (nI s)]) (rest := []) (v := (some (.int 1))) (h1 := (hG σ sr ln Lc μ)) rfl rfl rfl (sp_X12_isSheet d _ _ (am_in_of_nI hs (by omega))) ?_
  refine am_g 2 8 [some (.ref 47), some (.int (nI s)), some (.int i), some (.int (nI t)), some (.int j), some (.int n), none, none, none] [.int (nI t)] (hG σ sr ln Lc μ) rfl ?_
  refine am_call (y := 202) (vs := [.int (nI t)]) (rest := []) (v := (some (.int 1))) (h1 := (hG σ sr ln Lc μ)) rfl rfl rfl (sp_X12_isSheet d _ _ (am_in_of_nI ht (by omega))) ?_
  refine am_g 4 22 [some (.ref 47), some (.int (nI s)), some (.int i), some (.int (nI t)), some (.int j), some (.int n), none, none, none] [.int (nI s), .ref 71] (hG σ sr ln Lc μ) rfl ?_
  refine am_baldV (n := 4) (f := (μ 33)) (k := s) (w := 0) rfl rfl (rfl) (by omega) (by decide) (h) ?_
  refine am_g 2 37 [some (.ref 47), some (.int (nI s)), some (.int i), some (.int (nI t)), some (.int j), some (.int n), none, none, none] [.int (-11)] (hG σ sr ln Lc μ) rfl ?_
  exact am_ret2 rfl rfl rfl rfl rfl
theorem sp_X12_copy_m2 (d : Nat) (s : Nat) (hs : s < 4) (t : Nat) (ht : t < 4) (i j n : Int32) (h : μ 33 s = 1) (h2 : μ 33 t = 0) : am_X xs LL (d + 3) 205 [.ref 47, .int (nI s), .int i, .int (nI t), .int j, .int n] (hG σ sr ln Lc μ) (some (.int (-11))) (hG σ sr ln Lc μ) := by
  refine am_XR (d := d + 2) (C := cd_X12_copy) (L := [some (.ref 47), some (.int (nI s)), some (.int i), some (.int (nI t)), some (.int j), some (.int n), none, none, none]) rfl rfl rfl rfl ?_
  refine am_g 1 1 [some (.ref 47), some (.int (nI s)), some (.int i), some (.int (nI t)), some (.int j), some (.int n), none, none, none] [.int (nI s)] (hG σ sr ln Lc μ) rfl ?_
  refine am_call (y := 202) (vs := [.int (nI s)]) (rest := []) (v := (some (.int 1))) (h1 := (hG σ sr ln Lc μ)) rfl rfl rfl (sp_X12_isSheet d _ _ (am_in_of_nI hs (by omega))) ?_
  refine am_g 2 8 [some (.ref 47), some (.int (nI s)), some (.int i), some (.int (nI t)), some (.int j), some (.int n), none, none, none] [.int (nI t)] (hG σ sr ln Lc μ) rfl ?_
  refine am_call (y := 202) (vs := [.int (nI t)]) (rest := []) (v := (some (.int 1))) (h1 := (hG σ sr ln Lc μ)) rfl rfl rfl (sp_X12_isSheet d _ _ (am_in_of_nI ht (by omega))) ?_
  refine am_g 4 22 [some (.ref 47), some (.int (nI s)), some (.int i), some (.int (nI t)), some (.int j), some (.int n), none, none, none] [.int (nI s), .ref 71] (hG σ sr ln Lc μ) rfl ?_
  refine am_baldV (n := 4) (f := (μ 33)) (k := s) (w := 1) rfl rfl (rfl) (by omega) (by decide) (h) ?_
  refine am_g 4 31 [some (.ref 47), some (.int (nI s)), some (.int i), some (.int (nI t)), some (.int j), some (.int n), none, none, none] [.int (nI t), .ref 71] (hG σ sr ln Lc μ) rfl ?_
  refine am_baldV (n := 4) (f := (μ 33)) (k := t) (w := 0) rfl rfl (rfl) (by omega) (by decide) (h2) ?_
  refine am_g 2 37 [some (.ref 47), some (.int (nI s)), some (.int i), some (.int (nI t)), some (.int j), some (.int n), none, none, none] [.int (-11)] (hG σ sr ln Lc μ) rfl ?_
  exact am_ret2 rfl rfl rfl rfl rfl
theorem sp_X12_copy_x (d : Nat) (s : Nat) (hs : s < 4) (t : Nat) (ht : t < 4) (i j n : Int32) (h : μ 33 s = 1) (h2 : μ 33 t = 1) (hx : ¬ μ 34 s = μ 34 t) : am_X xs LL (d + 3) 205 [.ref 47, .int (nI s), .int i, .int (nI t), .int j, .int n] (hG σ sr ln Lc μ) (some (.int (-13))) (hG σ sr ln Lc μ) := by
  refine am_XR (d := d + 2) (C := cd_X12_copy) (L := [some (.ref 47), some (.int (nI s)), some (.int i), some (.int (nI t)), some (.int j), some (.int n), none, none, none]) rfl rfl rfl rfl ?_
  refine am_g 1 1 [some (.ref 47), some (.int (nI s)), some (.int i), some (.int (nI t)), some (.int j), some (.int n), none, none, none] [.int (nI s)] (hG σ sr ln Lc μ) rfl ?_
  refine am_call (y := 202) (vs := [.int (nI s)]) (rest := []) (v := (some (.int 1))) (h1 := (hG σ sr ln Lc μ)) rfl rfl rfl (sp_X12_isSheet d _ _ (am_in_of_nI hs (by omega))) ?_
  refine am_g 2 8 [some (.ref 47), some (.int (nI s)), some (.int i), some (.int (nI t)), some (.int j), some (.int n), none, none, none] [.int (nI t)] (hG σ sr ln Lc μ) rfl ?_
  refine am_call (y := 202) (vs := [.int (nI t)]) (rest := []) (v := (some (.int 1))) (h1 := (hG σ sr ln Lc μ)) rfl rfl rfl (sp_X12_isSheet d _ _ (am_in_of_nI ht (by omega))) ?_
  refine am_g 4 22 [some (.ref 47), some (.int (nI s)), some (.int i), some (.int (nI t)), some (.int j), some (.int n), none, none, none] [.int (nI s), .ref 71] (hG σ sr ln Lc μ) rfl ?_
  refine am_baldV (n := 4) (f := (μ 33)) (k := s) (w := 1) rfl rfl (rfl) (by omega) (by decide) (h) ?_
  refine am_g 4 31 [some (.ref 47), some (.int (nI s)), some (.int i), some (.int (nI t)), some (.int j), some (.int n), none, none, none] [.int (nI t), .ref 71] (hG σ sr ln Lc μ) rfl ?_
  refine am_baldV (n := 4) (f := (μ 33)) (k := t) (w := 1) rfl rfl (rfl) (by omega) (by decide) (h2) ?_
  refine am_g 4 43 [some (.ref 47), some (.int (nI s)), some (.int i), some (.int (nI t)), some (.int j), some (.int n), none, none, none] [.int (nI s), .ref 72] (hG σ sr ln Lc μ) rfl ?_
  refine am_ialdR (n := 4) (f := (μ 34)) (k := s) rfl rfl (rfl) (by omega) (by decide) ?_
  refine am_g 3 49 [some (.ref 47), some (.int (nI s)), some (.int i), some (.int (nI t)), some (.int j), some (.int n), none, none, none] [.int (nI t), .ref 72, .int (μ 34 s)] (hG σ sr ln Lc μ) rfl ?_
  refine am_ialdR (n := 4) (f := (μ 34)) (k := t) rfl rfl (rfl) (by omega) (by decide) ?_
  refine am_g 1 (if (μ 34 s) = (μ 34 t) then 56 else 53) [some (.ref 47), some (.int (nI s)), some (.int i), some (.int (nI t)), some (.int j), some (.int n), none, none, none] [] (hG σ sr ln Lc μ) rfl ?_
  rw [if_neg (show ¬ (μ 34 s) = (μ 34 t) from hx)]
  refine am_g 1 55 [some (.ref 47), some (.int (nI s)), some (.int i), some (.int (nI t)), some (.int j), some (.int n), none, none, none] [.int (-13)] (hG σ sr ln Lc μ) rfl ?_
  exact am_ret2 rfl rfl rfl rfl rfl
def pu_cvM (z y : Nat) (i j n : Int32) : Bool := decide (¬ n < 0 ∧ ¬ i < 0 ∧ ¬ j < 0 ∧ ¬ nI z - n < i ∧ j ≤ nI y - n)
theorem sp_X12_copy_o (d : Nat) (s : Nat) (hs : s < 4) (t : Nat) (ht : t < 4) (i j n : Int32) (h : μ 33 s = 1) (h2 : μ 33 t = 1) (hx : μ 34 s = μ 34 t) {z : Nat} (hz : μ 35 s = nI z) (hz40 : z ≤ 40) {y : Nat} (hy : μ 35 t = nI y) (hy40 : y ≤ 40) (hc : pu_cvM z y i j n = false) : am_X xs LL (d + 3) 205 [.ref 47, .int (nI s), .int i, .int (nI t), .int j, .int n] (hG σ sr ln Lc μ) (some (.int (-12))) (hG σ sr ln Lc μ) := by
  refine am_XR (d := d + 2) (C := cd_X12_copy) (L := [some (.ref 47), some (.int (nI s)), some (.int i), some (.int (nI t)), some (.int j), some (.int n), none, none, none]) rfl rfl rfl rfl ?_
  refine am_g 1 1 [some (.ref 47), some (.int (nI s)), some (.int i), some (.int (nI t)), some (.int j), some (.int n), none, none, none] [.int (nI s)] (hG σ sr ln Lc μ) rfl ?_
  refine am_call (y := 202) (vs := [.int (nI s)]) (rest := []) (v := (some (.int 1))) (h1 := (hG σ sr ln Lc μ)) rfl rfl rfl (sp_X12_isSheet d _ _ (am_in_of_nI hs (by omega))) ?_
  refine am_g 2 8 [some (.ref 47), some (.int (nI s)), some (.int i), some (.int (nI t)), some (.int j), some (.int n), none, none, none] [.int (nI t)] (hG σ sr ln Lc μ) rfl ?_
  refine am_call (y := 202) (vs := [.int (nI t)]) (rest := []) (v := (some (.int 1))) (h1 := (hG σ sr ln Lc μ)) rfl rfl rfl (sp_X12_isSheet d _ _ (am_in_of_nI ht (by omega))) ?_
  refine am_g 4 22 [some (.ref 47), some (.int (nI s)), some (.int i), some (.int (nI t)), some (.int j), some (.int n), none, none, none] [.int (nI s), .ref 71] (hG σ sr ln Lc μ) rfl ?_
  refine am_baldV (n := 4) (f := (μ 33)) (k := s) (w := 1) rfl rfl (rfl) (by omega) (by decide) (h) ?_
  refine am_g 4 31 [some (.ref 47), some (.int (nI s)), some (.int i), some (.int (nI t)), some (.int j), some (.int n), none, none, none] [.int (nI t), .ref 71] (hG σ sr ln Lc μ) rfl ?_
  refine am_baldV (n := 4) (f := (μ 33)) (k := t) (w := 1) rfl rfl (rfl) (by omega) (by decide) (h2) ?_
  refine am_g 4 43 [some (.ref 47), some (.int (nI s)), some (.int i), some (.int (nI t)), some (.int j), some (.int n), none, none, none] [.int (nI s), .ref 72] (hG σ sr ln Lc μ) rfl ?_
  refine am_ialdR (n := 4) (f := (μ 34)) (k := s) rfl rfl (rfl) (by omega) (by decide) ?_
  refine am_g 3 49 [some (.ref 47), some (.int (nI s)), some (.int i), some (.int (nI t)), some (.int j), some (.int n), none, none, none] [.int (nI t), .ref 72, .int (μ 34 s)] (hG σ sr ln Lc μ) rfl ?_
  refine am_ialdR (n := 4) (f := (μ 34)) (k := t) rfl rfl (rfl) (by omega) (by decide) ?_
  refine am_g 1 (if (μ 34 s) = (μ 34 t) then 56 else 53) [some (.ref 47), some (.int (nI s)), some (.int i), some (.int (nI t)), some (.int j), some (.int n), none, none, none] [] (hG σ sr ln Lc μ) rfl ?_
  rw [if_pos (show (μ 34 s) = (μ 34 t) from hx)]
  refine am_g 2 (if n < 0 then 97 else 61) [some (.ref 47), some (.int (nI s)), some (.int i), some (.int (nI t)), some (.int j), some (.int n), none, none, none] [] (hG σ sr ln Lc μ) rfl (am_brR (fun c1 => ?_) (fun c1 => ?_))
  · skip
    refine am_g 1 99 [some (.ref 47), some (.int (nI s)), some (.int i), some (.int (nI t)), some (.int j), some (.int n), none, none, none] [.int (-12)] (hG σ sr ln Lc μ) rfl ?_
    exact am_ret2 rfl rfl rfl rfl rfl
  · skip
    refine am_g 2 (if i < 0 then 97 else 65) [some (.ref 47), some (.int (nI s)), some (.int i), some (.int (nI t)), some (.int j), some (.int n), none, none, none] [] (hG σ sr ln Lc μ) rfl (am_brR (fun c2 => ?_) (fun c2 => ?_))
    · skip
      refine am_g 1 99 [some (.ref 47), some (.int (nI s)), some (.int i), some (.int (nI t)), some (.int j), some (.int n), none, none, none] [.int (-12)] (hG σ sr ln Lc μ) rfl ?_
      exact am_ret2 rfl rfl rfl rfl rfl
    · skip
      refine am_g 2 (if j < 0 then 97 else 70) [some (.ref 47), some (.int (nI s)), some (.int i), some (.int (nI t)), some (.int j), some (.int n), none, none, none] [] (hG σ sr ln Lc μ) rfl (am_brR (fun c3 => ?_) (fun c3 => ?_))
      · skip
        refine am_g 1 99 [some (.ref 47), some (.int (nI s)), some (.int i), some (.int (nI t)), some (.int j), some (.int n), none, none, none] [.int (-12)] (hG σ sr ln Lc μ) rfl ?_
        exact am_ret2 rfl rfl rfl rfl rfl
      · skip
        refine am_g 4 76 [some (.ref 47), some (.int (nI s)), some (.int i), some (.int (nI t)), some (.int j), some (.int n), none, none, none] [.int (nI s), .ref 73, .int i] (hG σ sr ln Lc μ) rfl ?_
        refine am_ialdV (n := 4) (f := (μ 35)) (k := s) (w := (nI z)) rfl rfl (rfl) (by omega) (by decide) (hz) ?_
        refine am_g 3 (if ((nI z) - n) < i then 97 else 83) [some (.ref 47), some (.int (nI s)), some (.int i), some (.int (nI t)), some (.int j), some (.int n), none, none, none] [] (hG σ sr ln Lc μ) rfl (am_brR (fun c4 => ?_) (fun c4 => ?_))
        · skip
          refine am_g 1 99 [some (.ref 47), some (.int (nI s)), some (.int i), some (.int (nI t)), some (.int j), some (.int n), none, none, none] [.int (-12)] (hG σ sr ln Lc μ) rfl ?_
          exact am_ret2 rfl rfl rfl rfl rfl
        · skip
          refine am_g 4 90 [some (.ref 47), some (.int (nI s)), some (.int i), some (.int (nI t)), some (.int j), some (.int n), none, none, none] [.int (nI t), .ref 73, .int j] (hG σ sr ln Lc μ) rfl ?_
          refine am_ialdV (n := 4) (f := (μ 35)) (k := t) (w := (nI y)) rfl rfl (rfl) (by omega) (by decide) (hy) ?_
          refine am_g 3 (if j ≤ ((nI y) - n) then 100 else 97) [some (.ref 47), some (.int (nI s)), some (.int i), some (.int (nI t)), some (.int j), some (.int n), none, none, none] [] (hG σ sr ln Lc μ) rfl (am_brR (fun c5 => ?_) (fun c5 => ?_))
          · skip
            exact absurd hc (by unfold pu_cvM; rw [decide_eq_true ⟨c1, c2, c3, c4, c5⟩]; decide)
          · skip
            refine am_g 1 99 [some (.ref 47), some (.int (nI s)), some (.int i), some (.int (nI t)), some (.int j), some (.int n), none, none, none] [.int (-12)] (hG σ sr ln Lc μ) rfl ?_
            exact am_ret2 rfl rfl rfl rfl rfl
theorem sp_X12_copy_up (d : Nat) (s : Nat) (hs : s < 4) (t : Nat) (ht : t < 4) (h : μ 33 s = 1) (h2 : μ 33 t = 1) (hx : μ 34 s = μ 34 t) {z : Nat} (hz : μ 35 s = nI z) (hz40 : z ≤ 40) {y : Nat} (hy : μ 35 t = nI y) (hy40 : y ≤ 40) (a b c : Nat) (hac : a + c ≤ z) (hbc : b + c ≤ y) (hst : s = t) (hab : a < b) : am_X xs LL (d + 3) 205 [.ref 47, .int (nI s), .int (nI a), .int (nI t), .int (nI b), .int (nI c)] (hG σ sr ln Lc μ) (some (.int (nI c))) (hG σ sr ln Lc (am_up μ 36 (am_it (fun k F => upd F (40 * t + b + (c - 1 - k)) (F (40 * s + a + (c - 1 - k)))) (μ 36) c))) := by
  refine am_XR (d := d + 2) (C := cd_X12_copy) (L := [some (.ref 47), some (.int (nI s)), some (.int (nI a)), some (.int (nI t)), some (.int (nI b)), some (.int (nI c)), none, none, none]) rfl rfl rfl rfl ?_
  refine am_g 1 1 [some (.ref 47), some (.int (nI s)), some (.int (nI a)), some (.int (nI t)), some (.int (nI b)), some (.int (nI c)), none, none, none] [.int (nI s)] (hG σ sr ln Lc μ) rfl ?_
  refine am_call (y := 202) (vs := [.int (nI s)]) (rest := []) (v := (some (.int 1))) (h1 := (hG σ sr ln Lc μ)) rfl rfl rfl (sp_X12_isSheet d _ _ (am_in_of_nI hs (by omega))) ?_
  refine am_g 2 8 [some (.ref 47), some (.int (nI s)), some (.int (nI a)), some (.int (nI t)), some (.int (nI b)), some (.int (nI c)), none, none, none] [.int (nI t)] (hG σ sr ln Lc μ) rfl ?_
  refine am_call (y := 202) (vs := [.int (nI t)]) (rest := []) (v := (some (.int 1))) (h1 := (hG σ sr ln Lc μ)) rfl rfl rfl (sp_X12_isSheet d _ _ (am_in_of_nI ht (by omega))) ?_
  refine am_g 4 22 [some (.ref 47), some (.int (nI s)), some (.int (nI a)), some (.int (nI t)), some (.int (nI b)), some (.int (nI c)), none, none, none] [.int (nI s), .ref 71] (hG σ sr ln Lc μ) rfl ?_
  refine am_baldV (n := 4) (f := (μ 33)) (k := s) (w := 1) rfl rfl (rfl) (by omega) (by decide) (h) ?_
  refine am_g 4 31 [some (.ref 47), some (.int (nI s)), some (.int (nI a)), some (.int (nI t)), some (.int (nI b)), some (.int (nI c)), none, none, none] [.int (nI t), .ref 71] (hG σ sr ln Lc μ) rfl ?_
  refine am_baldV (n := 4) (f := (μ 33)) (k := t) (w := 1) rfl rfl (rfl) (by omega) (by decide) (h2) ?_
  refine am_g 4 43 [some (.ref 47), some (.int (nI s)), some (.int (nI a)), some (.int (nI t)), some (.int (nI b)), some (.int (nI c)), none, none, none] [.int (nI s), .ref 72] (hG σ sr ln Lc μ) rfl ?_
  refine am_ialdR (n := 4) (f := (μ 34)) (k := s) rfl rfl (rfl) (by omega) (by decide) ?_
  refine am_g 3 49 [some (.ref 47), some (.int (nI s)), some (.int (nI a)), some (.int (nI t)), some (.int (nI b)), some (.int (nI c)), none, none, none] [.int (nI t), .ref 72, .int (μ 34 s)] (hG σ sr ln Lc μ) rfl ?_
  refine am_ialdR (n := 4) (f := (μ 34)) (k := t) rfl rfl (rfl) (by omega) (by decide) ?_
  refine am_g 1 (if (μ 34 s) = (μ 34 t) then 56 else 53) [some (.ref 47), some (.int (nI s)), some (.int (nI a)), some (.int (nI t)), some (.int (nI b)), some (.int (nI c)), none, none, none] [] (hG σ sr ln Lc μ) rfl ?_
  rw [if_pos (show (μ 34 s) = (μ 34 t) from hx)]
  refine am_g 2 (if (nI c) < 0 then 97 else 61) [some (.ref 47), some (.int (nI s)), some (.int (nI a)), some (.int (nI t)), some (.int (nI b)), some (.int (nI c)), none, none, none] [] (hG σ sr ln Lc μ) rfl ?_
  rw [if_neg (show ¬ (nI c) < 0 from (nI_pos (by omega)))]
  refine am_g 2 (if (nI a) < 0 then 97 else 65) [some (.ref 47), some (.int (nI s)), some (.int (nI a)), some (.int (nI t)), some (.int (nI b)), some (.int (nI c)), none, none, none] [] (hG σ sr ln Lc μ) rfl ?_
  rw [if_neg (show ¬ (nI a) < 0 from (nI_pos (by omega)))]
  refine am_g 2 (if (nI b) < 0 then 97 else 70) [some (.ref 47), some (.int (nI s)), some (.int (nI a)), some (.int (nI t)), some (.int (nI b)), some (.int (nI c)), none, none, none] [] (hG σ sr ln Lc μ) rfl ?_
  rw [if_neg (show ¬ (nI b) < 0 from (nI_pos (by omega)))]
  refine am_g 4 76 [some (.ref 47), some (.int (nI s)), some (.int (nI a)), some (.int (nI t)), some (.int (nI b)), some (.int (nI c)), none, none, none] [.int (nI s), .ref 73, .int (nI a)] (hG σ sr ln Lc μ) rfl ?_
  refine am_ialdV (n := 4) (f := (μ 35)) (k := s) (w := (nI z)) rfl rfl (rfl) (by omega) (by decide) (hz) ?_
  refine am_g 3 (if ((nI z) - (nI c)) < (nI a) then 97 else 83) [some (.ref 47), some (.int (nI s)), some (.int (nI a)), some (.int (nI t)), some (.int (nI b)), some (.int (nI c)), none, none, none] [] (hG σ sr ln Lc μ) rfl ?_
  rw [if_neg (show ¬ ((nI z) - (nI c)) < (nI a) from (by rw [pc_sub (by omega)]; exact nI_nlt (by omega) (by omega)))]
  refine am_g 4 90 [some (.ref 47), some (.int (nI s)), some (.int (nI a)), some (.int (nI t)), some (.int (nI b)), some (.int (nI c)), none, none, none] [.int (nI t), .ref 73, .int (nI b)] (hG σ sr ln Lc μ) rfl ?_
  refine am_ialdV (n := 4) (f := (μ 35)) (k := t) (w := (nI y)) rfl rfl (rfl) (by omega) (by decide) (hy) ?_
  refine am_g 3 (if (nI b) ≤ ((nI y) - (nI c)) then 100 else 97) [some (.ref 47), some (.int (nI s)), some (.int (nI a)), some (.int (nI t)), some (.int (nI b)), some (.int (nI c)), none, none, none] [] (hG σ sr ln Lc μ) rfl ?_
  rw [if_pos (show (nI b) ≤ ((nI y) - (nI c)) from (by rw [pc_sub (by omega)]; exact nI_le (by omega) (by omega)))]
  refine am_g 3 (if (nI s) = (nI t) then 105 else 115) [some (.ref 47), some (.int (nI s)), some (.int (nI a)), some (.int (nI t)), some (.int (nI b)), some (.int (nI c)), none, none, none] [] (hG σ sr ln Lc μ) rfl ?_
  rw [if_pos (show (nI s) = (nI t) from (by rw [hst]))]
  refine am_g 3 (if (nI b) ≤ (nI a) then 115 else 111) [some (.ref 47), some (.int (nI s)), some (.int (nI a)), some (.int (nI t)), some (.int (nI b)), some (.int (nI c)), none, none, none] [] (hG σ sr ln Lc μ) rfl ?_
  rw [if_neg (show ¬ (nI b) ≤ (nI a) from (nI_ge hab (by omega)))]
  refine am_g 5 121 [some (.ref 47), some (.int (nI s)), some (.int (nI a)), some (.int (nI t)), some (.int (nI b)), some (.int (nI c)), some (.int 1), some (.int 0), none] [] (hG σ sr ln Lc μ) rfl ?_
  have lp : ∀ (r k : Nat) (w : Option Value), k + r = c → am_R xs LL cd_X12_copy (am_X xs LL (d + 2)) 121 [some (.ref 47), some (.int (nI s)), some (.int (nI a)), some (.int (nI t)), some (.int (nI b)), some (.int (nI c)), some (.int 1), some (.int (nI k)), w] [] (hG σ sr ln Lc (am_up μ 36 (am_it (fun k F => upd F (40 * t + b + (c - 1 - k)) (F (40 * s + a + (c - 1 - k)))) (μ 36) k))) (some (.int (nI c))) (hG σ sr ln Lc (am_up μ 36 (am_it (fun k F => upd F (40 * t + b + (c - 1 - k)) (F (40 * s + a + (c - 1 - k)))) (μ 36) c))) := by
    intro r
    induction r with
    | zero =>
      intro k w hi
      have hi2 : k = c := by omega
      rw [hi2]
      refine am_g 3 (if (nI c) ≤ (nI c) then 182 else 128) [some (.ref 47), some (.int (nI s)), some (.int (nI a)), some (.int (nI t)), some (.int (nI b)), some (.int (nI c)), some (.int 1), some (.int (nI c)), w] [] (hG σ sr ln Lc (am_up μ 36 (am_it (fun k F => upd F (40 * t + b + (c - 1 - k)) (F (40 * s + a + (c - 1 - k)))) (μ 36) c))) rfl ?_
      rw [if_pos (show (nI c) ≤ (nI c) from (am_dle (a := c) (b := c) (rfl) (rfl) (by omega) (by omega) (by omega)))]
      refine am_g 1 184 [some (.ref 47), some (.int (nI s)), some (.int (nI a)), some (.int (nI t)), some (.int (nI b)), some (.int (nI c)), some (.int 1), some (.int (nI c)), w] [.int (nI c)] (hG σ sr ln Lc (am_up μ 36 (am_it (fun k F => upd F (40 * t + b + (c - 1 - k)) (F (40 * s + a + (c - 1 - k)))) (μ 36) c))) rfl ?_
      exact am_ret2 rfl rfl rfl rfl rfl
    | succ r ih =>
      intro k w hi
      have hi2 : k < c := by omega
      refine am_g 3 (if (nI c) ≤ (nI k) then 182 else 128) [some (.ref 47), some (.int (nI s)), some (.int (nI a)), some (.int (nI t)), some (.int (nI b)), some (.int (nI c)), some (.int 1), some (.int (nI k)), w] [] (hG σ sr ln Lc (am_up μ 36 (am_it (fun k F => upd F (40 * t + b + (c - 1 - k)) (F (40 * s + a + (c - 1 - k)))) (μ 36) k))) rfl ?_
      rw [if_neg (show ¬ (nI c) ≤ (nI k) from (am_dnle (a := c) (b := k) (rfl) (rfl) (by omega) (by omega) (by omega)))]
      refine am_g 7 140 [some (.ref 47), some (.int (nI s)), some (.int (nI a)), some (.int (nI t)), some (.int (nI b)), some (.int (nI c)), some (.int 1), some (.int (nI k)), w] [.int (((nI c) - 1) - (nI k))] (hG σ sr ln Lc (am_up μ 36 (am_it (fun k F => upd F (40 * t + b + (c - 1 - k)) (F (40 * s + a + (c - 1 - k)))) (μ 36) k))) rfl ?_
      rw [show (((nI c) - 1) - (nI k)) = nI (c - 1 - k) from by rw [show (nI c - 1) = nI (c - 1) from pc_sub (b := 1) (by omega), pc_sub (by omega)]]
      refine am_g 20 174 [some (.ref 47), some (.int (nI s)), some (.int (nI a)), some (.int (nI t)), some (.int (nI b)), some (.int (nI c)), some (.int 1), some (.int (nI k)), some (.int (nI (c - 1 - k)))] [.int (((40 * (nI s)) + (nI a)) + (nI (c - 1 - k))), .ref 74, .int (((40 * (nI t)) + (nI b)) + (nI (c - 1 - k))), .ref 74] (hG σ sr ln Lc (am_up μ 36 (am_it (fun k F => upd F (40 * t + b + (c - 1 - k)) (F (40 * s + a + (c - 1 - k)))) (μ 36) k))) rfl ?_
      refine am_ialdR (n := 160) (f := (am_it (fun k F => upd F (40 * t + b + (c - 1 - k)) (F (40 * s + a + (c - 1 - k)))) (μ 36) k)) (k := (((40 * s) + a) + (c - 1 - k))) rfl rfl (show ((((nI 40) * (nI s)) + (nI a)) + (nI (c - 1 - k))) = nI (((40 * s) + a) + (c - 1 - k)) from by first | (simp only [nI_mul2, nI_add]; done) | (simp only [nI_mul2, nI_add]; exact congrArg nI (by omega))) (by omega) (by decide) ?_
      refine am_iastR (n := 160) (f := (am_it (fun k F => upd F (40 * t + b + (c - 1 - k)) (F (40 * s + a + (c - 1 - k)))) (μ 36) k)) (k := (((40 * t) + b) + (c - 1 - k))) (h1 := (hG σ sr ln Lc (am_up μ 36 (upd (am_it (fun k F => upd F (40 * t + b + (c - 1 - k)) (F (40 * s + a + (c - 1 - k)))) (μ 36) k) (((40 * t) + b) + (c - 1 - k)) ((am_it (fun k F => upd F (40 * t + b + (c - 1 - k)) (F (40 * s + a + (c - 1 - k)))) (μ 36) k) (((40 * s) + a) + (c - 1 - k))))))) rfl rfl (show ((((nI 40) * (nI t)) + (nI b)) + (nI (c - 1 - k))) = nI (((40 * t) + b) + (c - 1 - k)) from by first | (simp only [nI_mul2, nI_add]; done) | (simp only [nI_mul2, nI_add]; exact congrArg nI (by omega))) (by omega) (by decide) rfl ?_
      refine am_g 2 121 [some (.ref 47), some (.int (nI s)), some (.int (nI a)), some (.int (nI t)), some (.int (nI b)), some (.int (nI c)), some (.int 1), some (.int ((nI k) + 1)), some (.int (nI (c - 1 - k)))] [] (hG σ sr ln Lc (am_up μ 36 (upd (am_it (fun k F => upd F (40 * t + b + (c - 1 - k)) (F (40 * s + a + (c - 1 - k)))) (μ 36) k) (((40 * t) + b) + (c - 1 - k)) ((am_it (fun k F => upd F (40 * t + b + (c - 1 - k)) (F (40 * s + a + (c - 1 - k)))) (μ 36) k) (((40 * s) + a) + (c - 1 - k)))))) rfl ?_
      rw [nI_up, ← (show (am_it (fun k F => upd F (40 * t + b + (c - 1 - k)) (F (40 * s + a + (c - 1 - k)))) (μ 36) (k + 1)) = (upd (am_it (fun k F => upd F (40 * t + b + (c - 1 - k)) (F (40 * s + a + (c - 1 - k)))) (μ 36) k) (((40 * t) + b) + (c - 1 - k)) ((am_it (fun k F => upd F (40 * t + b + (c - 1 - k)) (F (40 * s + a + (c - 1 - k)))) (μ 36) k) (((40 * s) + a) + (c - 1 - k)))) from rfl)]
      exact ih (k + 1) _ (by omega)
  exact lp c 0 none (by omega)
theorem sp_X12_copy_dn1 (d : Nat) (s : Nat) (hs : s < 4) (t : Nat) (ht : t < 4) (h : μ 33 s = 1) (h2 : μ 33 t = 1) (hx : μ 34 s = μ 34 t) {z : Nat} (hz : μ 35 s = nI z) (hz40 : z ≤ 40) {y : Nat} (hy : μ 35 t = nI y) (hy40 : y ≤ 40) (a b c : Nat) (hac : a + c ≤ z) (hbc : b + c ≤ y) (hst : ¬ s = t) : am_X xs LL (d + 3) 205 [.ref 47, .int (nI s), .int (nI a), .int (nI t), .int (nI b), .int (nI c)] (hG σ sr ln Lc μ) (some (.int (nI c))) (hG σ sr ln Lc (am_up μ 36 (am_it (fun k F => upd F (40 * t + b + k) (F (40 * s + a + k))) (μ 36) c))) := by
  refine am_XR (d := d + 2) (C := cd_X12_copy) (L := [some (.ref 47), some (.int (nI s)), some (.int (nI a)), some (.int (nI t)), some (.int (nI b)), some (.int (nI c)), none, none, none]) rfl rfl rfl rfl ?_
  refine am_g 1 1 [some (.ref 47), some (.int (nI s)), some (.int (nI a)), some (.int (nI t)), some (.int (nI b)), some (.int (nI c)), none, none, none] [.int (nI s)] (hG σ sr ln Lc μ) rfl ?_
  refine am_call (y := 202) (vs := [.int (nI s)]) (rest := []) (v := (some (.int 1))) (h1 := (hG σ sr ln Lc μ)) rfl rfl rfl (sp_X12_isSheet d _ _ (am_in_of_nI hs (by omega))) ?_
  refine am_g 2 8 [some (.ref 47), some (.int (nI s)), some (.int (nI a)), some (.int (nI t)), some (.int (nI b)), some (.int (nI c)), none, none, none] [.int (nI t)] (hG σ sr ln Lc μ) rfl ?_
  refine am_call (y := 202) (vs := [.int (nI t)]) (rest := []) (v := (some (.int 1))) (h1 := (hG σ sr ln Lc μ)) rfl rfl rfl (sp_X12_isSheet d _ _ (am_in_of_nI ht (by omega))) ?_
  refine am_g 4 22 [some (.ref 47), some (.int (nI s)), some (.int (nI a)), some (.int (nI t)), some (.int (nI b)), some (.int (nI c)), none, none, none] [.int (nI s), .ref 71] (hG σ sr ln Lc μ) rfl ?_
  refine am_baldV (n := 4) (f := (μ 33)) (k := s) (w := 1) rfl rfl (rfl) (by omega) (by decide) (h) ?_
  refine am_g 4 31 [some (.ref 47), some (.int (nI s)), some (.int (nI a)), some (.int (nI t)), some (.int (nI b)), some (.int (nI c)), none, none, none] [.int (nI t), .ref 71] (hG σ sr ln Lc μ) rfl ?_
  refine am_baldV (n := 4) (f := (μ 33)) (k := t) (w := 1) rfl rfl (rfl) (by omega) (by decide) (h2) ?_
  refine am_g 4 43 [some (.ref 47), some (.int (nI s)), some (.int (nI a)), some (.int (nI t)), some (.int (nI b)), some (.int (nI c)), none, none, none] [.int (nI s), .ref 72] (hG σ sr ln Lc μ) rfl ?_
  refine am_ialdR (n := 4) (f := (μ 34)) (k := s) rfl rfl (rfl) (by omega) (by decide) ?_
  refine am_g 3 49 [some (.ref 47), some (.int (nI s)), some (.int (nI a)), some (.int (nI t)), some (.int (nI b)), some (.int (nI c)), none, none, none] [.int (nI t), .ref 72, .int (μ 34 s)] (hG σ sr ln Lc μ) rfl ?_
  refine am_ialdR (n := 4) (f := (μ 34)) (k := t) rfl rfl (rfl) (by omega) (by decide) ?_
  refine am_g 1 (if (μ 34 s) = (μ 34 t) then 56 else 53) [some (.ref 47), some (.int (nI s)), some (.int (nI a)), some (.int (nI t)), some (.int (nI b)), some (.int (nI c)), none, none, none] [] (hG σ sr ln Lc μ) rfl ?_
  rw [if_pos (show (μ 34 s) = (μ 34 t) from hx)]
  refine am_g 2 (if (nI c) < 0 then 97 else 61) [some (.ref 47), some (.int (nI s)), some (.int (nI a)), some (.int (nI t)), some (.int (nI b)), some (.int (nI c)), none, none, none] [] (hG σ sr ln Lc μ) rfl ?_
  rw [if_neg (show ¬ (nI c) < 0 from (nI_pos (by omega)))]
  refine am_g 2 (if (nI a) < 0 then 97 else 65) [some (.ref 47), some (.int (nI s)), some (.int (nI a)), some (.int (nI t)), some (.int (nI b)), some (.int (nI c)), none, none, none] [] (hG σ sr ln Lc μ) rfl ?_
  rw [if_neg (show ¬ (nI a) < 0 from (nI_pos (by omega)))]
  refine am_g 2 (if (nI b) < 0 then 97 else 70) [some (.ref 47), some (.int (nI s)), some (.int (nI a)), some (.int (nI t)), some (.int (nI b)), some (.int (nI c)), none, none, none] [] (hG σ sr ln Lc μ) rfl ?_
  rw [if_neg (show ¬ (nI b) < 0 from (nI_pos (by omega)))]
  refine am_g 4 76 [some (.ref 47), some (.int (nI s)), some (.int (nI a)), some (.int (nI t)), some (.int (nI b)), some (.int (nI c)), none, none, none] [.int (nI s), .ref 73, .int (nI a)] (hG σ sr ln Lc μ) rfl ?_
  refine am_ialdV (n := 4) (f := (μ 35)) (k := s) (w := (nI z)) rfl rfl (rfl) (by omega) (by decide) (hz) ?_
  refine am_g 3 (if ((nI z) - (nI c)) < (nI a) then 97 else 83) [some (.ref 47), some (.int (nI s)), some (.int (nI a)), some (.int (nI t)), some (.int (nI b)), some (.int (nI c)), none, none, none] [] (hG σ sr ln Lc μ) rfl ?_
  rw [if_neg (show ¬ ((nI z) - (nI c)) < (nI a) from (by rw [pc_sub (by omega)]; exact nI_nlt (by omega) (by omega)))]
  refine am_g 4 90 [some (.ref 47), some (.int (nI s)), some (.int (nI a)), some (.int (nI t)), some (.int (nI b)), some (.int (nI c)), none, none, none] [.int (nI t), .ref 73, .int (nI b)] (hG σ sr ln Lc μ) rfl ?_
  refine am_ialdV (n := 4) (f := (μ 35)) (k := t) (w := (nI y)) rfl rfl (rfl) (by omega) (by decide) (hy) ?_
  refine am_g 3 (if (nI b) ≤ ((nI y) - (nI c)) then 100 else 97) [some (.ref 47), some (.int (nI s)), some (.int (nI a)), some (.int (nI t)), some (.int (nI b)), some (.int (nI c)), none, none, none] [] (hG σ sr ln Lc μ) rfl ?_
  rw [if_pos (show (nI b) ≤ ((nI y) - (nI c)) from (by rw [pc_sub (by omega)]; exact nI_le (by omega) (by omega)))]
  refine am_g 3 (if (nI s) = (nI t) then 105 else 115) [some (.ref 47), some (.int (nI s)), some (.int (nI a)), some (.int (nI t)), some (.int (nI b)), some (.int (nI c)), none, none, none] [] (hG σ sr ln Lc μ) rfl ?_
  rw [if_neg (show ¬ (nI s) = (nI t) from (fun q => hst ((nI_eq (by omega) (by omega)).mp q)))]
  refine am_g 4 121 [some (.ref 47), some (.int (nI s)), some (.int (nI a)), some (.int (nI t)), some (.int (nI b)), some (.int (nI c)), some (.int 0), some (.int 0), none] [] (hG σ sr ln Lc μ) rfl ?_
  have lp : ∀ (r k : Nat) (w : Option Value), k + r = c → am_R xs LL cd_X12_copy (am_X xs LL (d + 2)) 121 [some (.ref 47), some (.int (nI s)), some (.int (nI a)), some (.int (nI t)), some (.int (nI b)), some (.int (nI c)), some (.int 0), some (.int (nI k)), w] [] (hG σ sr ln Lc (am_up μ 36 (am_it (fun k F => upd F (40 * t + b + k) (F (40 * s + a + k))) (μ 36) k))) (some (.int (nI c))) (hG σ sr ln Lc (am_up μ 36 (am_it (fun k F => upd F (40 * t + b + k) (F (40 * s + a + k))) (μ 36) c))) := by
    intro r
    induction r with
    | zero =>
      intro k w hi
      have hi2 : k = c := by omega
      rw [hi2]
      refine am_g 3 (if (nI c) ≤ (nI c) then 182 else 128) [some (.ref 47), some (.int (nI s)), some (.int (nI a)), some (.int (nI t)), some (.int (nI b)), some (.int (nI c)), some (.int 0), some (.int (nI c)), w] [] (hG σ sr ln Lc (am_up μ 36 (am_it (fun k F => upd F (40 * t + b + k) (F (40 * s + a + k))) (μ 36) c))) rfl ?_
      rw [if_pos (show (nI c) ≤ (nI c) from (am_dle (a := c) (b := c) (rfl) (rfl) (by omega) (by omega) (by omega)))]
      refine am_g 1 184 [some (.ref 47), some (.int (nI s)), some (.int (nI a)), some (.int (nI t)), some (.int (nI b)), some (.int (nI c)), some (.int 0), some (.int (nI c)), w] [.int (nI c)] (hG σ sr ln Lc (am_up μ 36 (am_it (fun k F => upd F (40 * t + b + k) (F (40 * s + a + k))) (μ 36) c))) rfl ?_
      exact am_ret2 rfl rfl rfl rfl rfl
    | succ r ih =>
      intro k w hi
      have hi2 : k < c := by omega
      refine am_g 3 (if (nI c) ≤ (nI k) then 182 else 128) [some (.ref 47), some (.int (nI s)), some (.int (nI a)), some (.int (nI t)), some (.int (nI b)), some (.int (nI c)), some (.int 0), some (.int (nI k)), w] [] (hG σ sr ln Lc (am_up μ 36 (am_it (fun k F => upd F (40 * t + b + k) (F (40 * s + a + k))) (μ 36) k))) rfl ?_
      rw [if_neg (show ¬ (nI c) ≤ (nI k) from (am_dnle (a := c) (b := k) (rfl) (rfl) (by omega) (by omega) (by omega)))]
      refine am_g 22 174 [some (.ref 47), some (.int (nI s)), some (.int (nI a)), some (.int (nI t)), some (.int (nI b)), some (.int (nI c)), some (.int 0), some (.int (nI k)), some (.int (nI k))] [.int (((40 * (nI s)) + (nI a)) + (nI k)), .ref 74, .int (((40 * (nI t)) + (nI b)) + (nI k)), .ref 74] (hG σ sr ln Lc (am_up μ 36 (am_it (fun k F => upd F (40 * t + b + k) (F (40 * s + a + k))) (μ 36) k))) rfl ?_
      refine am_ialdR (n := 160) (f := (am_it (fun k F => upd F (40 * t + b + k) (F (40 * s + a + k))) (μ 36) k)) (k := (((40 * s) + a) + k)) rfl rfl (show ((((nI 40) * (nI s)) + (nI a)) + (nI k)) = nI (((40 * s) + a) + k) from by first | (simp only [nI_mul2, nI_add]; done) | (simp only [nI_mul2, nI_add]; exact congrArg nI (by omega))) (by omega) (by decide) ?_
      refine am_iastR (n := 160) (f := (am_it (fun k F => upd F (40 * t + b + k) (F (40 * s + a + k))) (μ 36) k)) (k := (((40 * t) + b) + k)) (h1 := (hG σ sr ln Lc (am_up μ 36 (upd (am_it (fun k F => upd F (40 * t + b + k) (F (40 * s + a + k))) (μ 36) k) (((40 * t) + b) + k) ((am_it (fun k F => upd F (40 * t + b + k) (F (40 * s + a + k))) (μ 36) k) (((40 * s) + a) + k)))))) rfl rfl (show ((((nI 40) * (nI t)) + (nI b)) + (nI k)) = nI (((40 * t) + b) + k) from by first | (simp only [nI_mul2, nI_add]; done) | (simp only [nI_mul2, nI_add]; exact congrArg nI (by omega))) (by omega) (by decide) rfl ?_
      refine am_g 2 121 [some (.ref 47), some (.int (nI s)), some (.int (nI a)), some (.int (nI t)), some (.int (nI b)), some (.int (nI c)), some (.int 0), some (.int ((nI k) + 1)), some (.int (nI k))] [] (hG σ sr ln Lc (am_up μ 36 (upd (am_it (fun k F => upd F (40 * t + b + k) (F (40 * s + a + k))) (μ 36) k) (((40 * t) + b) + k) ((am_it (fun k F => upd F (40 * t + b + k) (F (40 * s + a + k))) (μ 36) k) (((40 * s) + a) + k))))) rfl ?_
      rw [nI_up, ← (show (am_it (fun k F => upd F (40 * t + b + k) (F (40 * s + a + k))) (μ 36) (k + 1)) = (upd (am_it (fun k F => upd F (40 * t + b + k) (F (40 * s + a + k))) (μ 36) k) (((40 * t) + b) + k) ((am_it (fun k F => upd F (40 * t + b + k) (F (40 * s + a + k))) (μ 36) k) (((40 * s) + a) + k))) from rfl)]
      exact ih (k + 1) _ (by omega)
  exact lp c 0 none (by omega)
theorem sp_X12_copy_dn2 (d : Nat) (s : Nat) (hs : s < 4) (t : Nat) (ht : t < 4) (h : μ 33 s = 1) (h2 : μ 33 t = 1) (hx : μ 34 s = μ 34 t) {z : Nat} (hz : μ 35 s = nI z) (hz40 : z ≤ 40) {y : Nat} (hy : μ 35 t = nI y) (hy40 : y ≤ 40) (a b c : Nat) (hac : a + c ≤ z) (hbc : b + c ≤ y) (hst : s = t) (hab : b ≤ a) : am_X xs LL (d + 3) 205 [.ref 47, .int (nI s), .int (nI a), .int (nI t), .int (nI b), .int (nI c)] (hG σ sr ln Lc μ) (some (.int (nI c))) (hG σ sr ln Lc (am_up μ 36 (am_it (fun k F => upd F (40 * t + b + k) (F (40 * s + a + k))) (μ 36) c))) := by
  refine am_XR (d := d + 2) (C := cd_X12_copy) (L := [some (.ref 47), some (.int (nI s)), some (.int (nI a)), some (.int (nI t)), some (.int (nI b)), some (.int (nI c)), none, none, none]) rfl rfl rfl rfl ?_
  refine am_g 1 1 [some (.ref 47), some (.int (nI s)), some (.int (nI a)), some (.int (nI t)), some (.int (nI b)), some (.int (nI c)), none, none, none] [.int (nI s)] (hG σ sr ln Lc μ) rfl ?_
  refine am_call (y := 202) (vs := [.int (nI s)]) (rest := []) (v := (some (.int 1))) (h1 := (hG σ sr ln Lc μ)) rfl rfl rfl (sp_X12_isSheet d _ _ (am_in_of_nI hs (by omega))) ?_
  refine am_g 2 8 [some (.ref 47), some (.int (nI s)), some (.int (nI a)), some (.int (nI t)), some (.int (nI b)), some (.int (nI c)), none, none, none] [.int (nI t)] (hG σ sr ln Lc μ) rfl ?_
  refine am_call (y := 202) (vs := [.int (nI t)]) (rest := []) (v := (some (.int 1))) (h1 := (hG σ sr ln Lc μ)) rfl rfl rfl (sp_X12_isSheet d _ _ (am_in_of_nI ht (by omega))) ?_
  refine am_g 4 22 [some (.ref 47), some (.int (nI s)), some (.int (nI a)), some (.int (nI t)), some (.int (nI b)), some (.int (nI c)), none, none, none] [.int (nI s), .ref 71] (hG σ sr ln Lc μ) rfl ?_
  refine am_baldV (n := 4) (f := (μ 33)) (k := s) (w := 1) rfl rfl (rfl) (by omega) (by decide) (h) ?_
  refine am_g 4 31 [some (.ref 47), some (.int (nI s)), some (.int (nI a)), some (.int (nI t)), some (.int (nI b)), some (.int (nI c)), none, none, none] [.int (nI t), .ref 71] (hG σ sr ln Lc μ) rfl ?_
  refine am_baldV (n := 4) (f := (μ 33)) (k := t) (w := 1) rfl rfl (rfl) (by omega) (by decide) (h2) ?_
  refine am_g 4 43 [some (.ref 47), some (.int (nI s)), some (.int (nI a)), some (.int (nI t)), some (.int (nI b)), some (.int (nI c)), none, none, none] [.int (nI s), .ref 72] (hG σ sr ln Lc μ) rfl ?_
  refine am_ialdR (n := 4) (f := (μ 34)) (k := s) rfl rfl (rfl) (by omega) (by decide) ?_
  refine am_g 3 49 [some (.ref 47), some (.int (nI s)), some (.int (nI a)), some (.int (nI t)), some (.int (nI b)), some (.int (nI c)), none, none, none] [.int (nI t), .ref 72, .int (μ 34 s)] (hG σ sr ln Lc μ) rfl ?_
  refine am_ialdR (n := 4) (f := (μ 34)) (k := t) rfl rfl (rfl) (by omega) (by decide) ?_
  refine am_g 1 (if (μ 34 s) = (μ 34 t) then 56 else 53) [some (.ref 47), some (.int (nI s)), some (.int (nI a)), some (.int (nI t)), some (.int (nI b)), some (.int (nI c)), none, none, none] [] (hG σ sr ln Lc μ) rfl ?_
  rw [if_pos (show (μ 34 s) = (μ 34 t) from hx)]
  refine am_g 2 (if (nI c) < 0 then 97 else 61) [some (.ref 47), some (.int (nI s)), some (.int (nI a)), some (.int (nI t)), some (.int (nI b)), some (.int (nI c)), none, none, none] [] (hG σ sr ln Lc μ) rfl ?_
  rw [if_neg (show ¬ (nI c) < 0 from (nI_pos (by omega)))]
  refine am_g 2 (if (nI a) < 0 then 97 else 65) [some (.ref 47), some (.int (nI s)), some (.int (nI a)), some (.int (nI t)), some (.int (nI b)), some (.int (nI c)), none, none, none] [] (hG σ sr ln Lc μ) rfl ?_
  rw [if_neg (show ¬ (nI a) < 0 from (nI_pos (by omega)))]
  refine am_g 2 (if (nI b) < 0 then 97 else 70) [some (.ref 47), some (.int (nI s)), some (.int (nI a)), some (.int (nI t)), some (.int (nI b)), some (.int (nI c)), none, none, none] [] (hG σ sr ln Lc μ) rfl ?_
  rw [if_neg (show ¬ (nI b) < 0 from (nI_pos (by omega)))]
  refine am_g 4 76 [some (.ref 47), some (.int (nI s)), some (.int (nI a)), some (.int (nI t)), some (.int (nI b)), some (.int (nI c)), none, none, none] [.int (nI s), .ref 73, .int (nI a)] (hG σ sr ln Lc μ) rfl ?_
  refine am_ialdV (n := 4) (f := (μ 35)) (k := s) (w := (nI z)) rfl rfl (rfl) (by omega) (by decide) (hz) ?_
  refine am_g 3 (if ((nI z) - (nI c)) < (nI a) then 97 else 83) [some (.ref 47), some (.int (nI s)), some (.int (nI a)), some (.int (nI t)), some (.int (nI b)), some (.int (nI c)), none, none, none] [] (hG σ sr ln Lc μ) rfl ?_
  rw [if_neg (show ¬ ((nI z) - (nI c)) < (nI a) from (by rw [pc_sub (by omega)]; exact nI_nlt (by omega) (by omega)))]
  refine am_g 4 90 [some (.ref 47), some (.int (nI s)), some (.int (nI a)), some (.int (nI t)), some (.int (nI b)), some (.int (nI c)), none, none, none] [.int (nI t), .ref 73, .int (nI b)] (hG σ sr ln Lc μ) rfl ?_
  refine am_ialdV (n := 4) (f := (μ 35)) (k := t) (w := (nI y)) rfl rfl (rfl) (by omega) (by decide) (hy) ?_
  refine am_g 3 (if (nI b) ≤ ((nI y) - (nI c)) then 100 else 97) [some (.ref 47), some (.int (nI s)), some (.int (nI a)), some (.int (nI t)), some (.int (nI b)), some (.int (nI c)), none, none, none] [] (hG σ sr ln Lc μ) rfl ?_
  rw [if_pos (show (nI b) ≤ ((nI y) - (nI c)) from (by rw [pc_sub (by omega)]; exact nI_le (by omega) (by omega)))]
  refine am_g 3 (if (nI s) = (nI t) then 105 else 115) [some (.ref 47), some (.int (nI s)), some (.int (nI a)), some (.int (nI t)), some (.int (nI b)), some (.int (nI c)), none, none, none] [] (hG σ sr ln Lc μ) rfl ?_
  rw [if_pos (show (nI s) = (nI t) from (by rw [hst]))]
  refine am_g 3 (if (nI b) ≤ (nI a) then 115 else 111) [some (.ref 47), some (.int (nI s)), some (.int (nI a)), some (.int (nI t)), some (.int (nI b)), some (.int (nI c)), none, none, none] [] (hG σ sr ln Lc μ) rfl ?_
  rw [if_pos (show (nI b) ≤ (nI a) from (nI_le hab (by omega)))]
  refine am_g 4 121 [some (.ref 47), some (.int (nI s)), some (.int (nI a)), some (.int (nI t)), some (.int (nI b)), some (.int (nI c)), some (.int 0), some (.int 0), none] [] (hG σ sr ln Lc μ) rfl ?_
  have lp : ∀ (r k : Nat) (w : Option Value), k + r = c → am_R xs LL cd_X12_copy (am_X xs LL (d + 2)) 121 [some (.ref 47), some (.int (nI s)), some (.int (nI a)), some (.int (nI t)), some (.int (nI b)), some (.int (nI c)), some (.int 0), some (.int (nI k)), w] [] (hG σ sr ln Lc (am_up μ 36 (am_it (fun k F => upd F (40 * t + b + k) (F (40 * s + a + k))) (μ 36) k))) (some (.int (nI c))) (hG σ sr ln Lc (am_up μ 36 (am_it (fun k F => upd F (40 * t + b + k) (F (40 * s + a + k))) (μ 36) c))) := by
    intro r
    induction r with
    | zero =>
      intro k w hi
      have hi2 : k = c := by omega
      rw [hi2]
      refine am_g 3 (if (nI c) ≤ (nI c) then 182 else 128) [some (.ref 47), some (.int (nI s)), some (.int (nI a)), some (.int (nI t)), some (.int (nI b)), some (.int (nI c)), some (.int 0), some (.int (nI c)), w] [] (hG σ sr ln Lc (am_up μ 36 (am_it (fun k F => upd F (40 * t + b + k) (F (40 * s + a + k))) (μ 36) c))) rfl ?_
      rw [if_pos (show (nI c) ≤ (nI c) from (am_dle (a := c) (b := c) (rfl) (rfl) (by omega) (by omega) (by omega)))]
      refine am_g 1 184 [some (.ref 47), some (.int (nI s)), some (.int (nI a)), some (.int (nI t)), some (.int (nI b)), some (.int (nI c)), some (.int 0), some (.int (nI c)), w] [.int (nI c)] (hG σ sr ln Lc (am_up μ 36 (am_it (fun k F => upd F (40 * t + b + k) (F (40 * s + a + k))) (μ 36) c))) rfl ?_
      exact am_ret2 rfl rfl rfl rfl rfl
    | succ r ih =>
      intro k w hi
      have hi2 : k < c := by omega
      refine am_g 3 (if (nI c) ≤ (nI k) then 182 else 128) [some (.ref 47), some (.int (nI s)), some (.int (nI a)), some (.int (nI t)), some (.int (nI b)), some (.int (nI c)), some (.int 0), some (.int (nI k)), w] [] (hG σ sr ln Lc (am_up μ 36 (am_it (fun k F => upd F (40 * t + b + k) (F (40 * s + a + k))) (μ 36) k))) rfl ?_
      rw [if_neg (show ¬ (nI c) ≤ (nI k) from (am_dnle (a := c) (b := k) (rfl) (rfl) (by omega) (by omega) (by omega)))]
      refine am_g 22 174 [some (.ref 47), some (.int (nI s)), some (.int (nI a)), some (.int (nI t)), some (.int (nI b)), some (.int (nI c)), some (.int 0), some (.int (nI k)), some (.int (nI k))] [.int (((40 * (nI s)) + (nI a)) + (nI k)), .ref 74, .int (((40 * (nI t)) + (nI b)) + (nI k)), .ref 74] (hG σ sr ln Lc (am_up μ 36 (am_it (fun k F => upd F (40 * t + b + k) (F (40 * s + a + k))) (μ 36) k))) rfl ?_
      refine am_ialdR (n := 160) (f := (am_it (fun k F => upd F (40 * t + b + k) (F (40 * s + a + k))) (μ 36) k)) (k := (((40 * s) + a) + k)) rfl rfl (show ((((nI 40) * (nI s)) + (nI a)) + (nI k)) = nI (((40 * s) + a) + k) from by first | (simp only [nI_mul2, nI_add]; done) | (simp only [nI_mul2, nI_add]; exact congrArg nI (by omega))) (by omega) (by decide) ?_
      refine am_iastR (n := 160) (f := (am_it (fun k F => upd F (40 * t + b + k) (F (40 * s + a + k))) (μ 36) k)) (k := (((40 * t) + b) + k)) (h1 := (hG σ sr ln Lc (am_up μ 36 (upd (am_it (fun k F => upd F (40 * t + b + k) (F (40 * s + a + k))) (μ 36) k) (((40 * t) + b) + k) ((am_it (fun k F => upd F (40 * t + b + k) (F (40 * s + a + k))) (μ 36) k) (((40 * s) + a) + k)))))) rfl rfl (show ((((nI 40) * (nI t)) + (nI b)) + (nI k)) = nI (((40 * t) + b) + k) from by first | (simp only [nI_mul2, nI_add]; done) | (simp only [nI_mul2, nI_add]; exact congrArg nI (by omega))) (by omega) (by decide) rfl ?_
      refine am_g 2 121 [some (.ref 47), some (.int (nI s)), some (.int (nI a)), some (.int (nI t)), some (.int (nI b)), some (.int (nI c)), some (.int 0), some (.int ((nI k) + 1)), some (.int (nI k))] [] (hG σ sr ln Lc (am_up μ 36 (upd (am_it (fun k F => upd F (40 * t + b + k) (F (40 * s + a + k))) (μ 36) k) (((40 * t) + b) + k) ((am_it (fun k F => upd F (40 * t + b + k) (F (40 * s + a + k))) (μ 36) k) (((40 * s) + a) + k))))) rfl ?_
      rw [nI_up, ← (show (am_it (fun k F => upd F (40 * t + b + k) (F (40 * s + a + k))) (μ 36) (k + 1)) = (upd (am_it (fun k F => upd F (40 * t + b + k) (F (40 * s + a + k))) (μ 36) k) (((40 * t) + b) + k) ((am_it (fun k F => upd F (40 * t + b + k) (F (40 * s + a + k))) (μ 36) k) (((40 * s) + a) + k))) from rfl)]
      exact ih (k + 1) _ (by omega)
  exact lp c 0 none (by omega)
theorem sp_X12_taped_no (d : Nat) (q k a n : Int32) (hq : am_in q 4 = false) : am_X xs LL (d + 3) 206 [.ref 47, .int q, .int k, .int a, .int n] (hG σ sr ln Lc μ) (some (.int (-2))) (hG σ sr ln Lc μ) := by
  refine am_XR (d := d + 2) (C := cd_X12_taped) (L := [some (.ref 47), some (.int q), some (.int k), some (.int a), some (.int n), none]) rfl rfl rfl rfl ?_
  refine am_g 1 1 [some (.ref 47), some (.int q), some (.int k), some (.int a), some (.int n), none] [.int q] (hG σ sr ln Lc μ) rfl ?_
  refine am_call (y := 202) (vs := [.int q]) (rest := []) (v := (some (.int 0))) (h1 := (hG σ sr ln Lc μ)) rfl rfl rfl (sp_X12_isSheet d _ _ hq) ?_
  refine am_g 2 34 [some (.ref 47), some (.int q), some (.int k), some (.int a), some (.int n), none] [.int (-2)] (hG σ sr ln Lc μ) rfl ?_
  exact am_ret2 rfl rfl rfl rfl rfl
theorem sp_X12_taped_bk (d : Nat) (s : Nat) (hs : s < 4) (k a n : Int32) (hs3 : am_in k 3 = false) : am_X xs LL (d + 3) 206 [.ref 47, .int (nI s), .int k, .int a, .int n] (hG σ sr ln Lc μ) (some (.int (-2))) (hG σ sr ln Lc μ) := by
  refine am_XR (d := d + 2) (C := cd_X12_taped) (L := [some (.ref 47), some (.int (nI s)), some (.int k), some (.int a), some (.int n), none]) rfl rfl rfl rfl ?_
  refine am_g 1 1 [some (.ref 47), some (.int (nI s)), some (.int k), some (.int a), some (.int n), none] [.int (nI s)] (hG σ sr ln Lc μ) rfl ?_
  refine am_call (y := 202) (vs := [.int (nI s)]) (rest := []) (v := (some (.int 1))) (h1 := (hG σ sr ln Lc μ)) rfl rfl rfl (sp_X12_isSheet d _ _ (am_in_of_nI hs (by omega))) ?_
  refine am_g 5 13 [some (.ref 47), some (.int (nI s)), some (.int k), some (.int a), some (.int n), none] [.long 2, .long 0, .long (k.toInt64)] (hG σ sr ln Lc μ) rfl ?_
  refine am_call (y := 140) (vs := [.long (k.toInt64), .long 0, .long 2]) (rest := []) (v := (some (.int 0))) (h1 := (hG σ sr ln Lc μ)) rfl rfl rfl (sp_X12_in_b (d + 1) _ _ _ _ ((am_in64c (n := 3) (by decide)).trans hs3)) ?_
  refine am_g 2 34 [some (.ref 47), some (.int (nI s)), some (.int k), some (.int a), some (.int n), none] [.int (-2)] (hG σ sr ln Lc μ) rfl ?_
  exact am_ret2 rfl rfl rfl rfl rfl
theorem sp_X12_taped_bn (d : Nat) (s : Nat) (hs : s < 4) (k a n : Int32) (hs3 : am_in k 3 = true) (hn21 : am_in n 21 = false) : am_X xs LL (d + 3) 206 [.ref 47, .int (nI s), .int k, .int a, .int n] (hG σ sr ln Lc μ) (some (.int (-2))) (hG σ sr ln Lc μ) := by
  refine am_XR (d := d + 2) (C := cd_X12_taped) (L := [some (.ref 47), some (.int (nI s)), some (.int k), some (.int a), some (.int n), none]) rfl rfl rfl rfl ?_
  refine am_g 1 1 [some (.ref 47), some (.int (nI s)), some (.int k), some (.int a), some (.int n), none] [.int (nI s)] (hG σ sr ln Lc μ) rfl ?_
  refine am_call (y := 202) (vs := [.int (nI s)]) (rest := []) (v := (some (.int 1))) (h1 := (hG σ sr ln Lc μ)) rfl rfl rfl (sp_X12_isSheet d _ _ (am_in_of_nI hs (by omega))) ?_
  refine am_g 5 13 [some (.ref 47), some (.int (nI s)), some (.int k), some (.int a), some (.int n), none] [.long 2, .long 0, .long (k.toInt64)] (hG σ sr ln Lc μ) rfl ?_
  refine am_call (y := 140) (vs := [.long (k.toInt64), .long 0, .long 2]) (rest := []) (v := (some (.int 1))) (h1 := (hG σ sr ln Lc μ)) rfl rfl rfl (sp_X12_in_b (d + 1) _ _ _ _ ((am_in64c (n := 3) (by decide)).trans hs3)) ?_
  refine am_g 5 26 [some (.ref 47), some (.int (nI s)), some (.int k), some (.int a), some (.int n), none] [.long 20, .long 0, .long (n.toInt64)] (hG σ sr ln Lc μ) rfl ?_
  refine am_call (y := 140) (vs := [.long (n.toInt64), .long 0, .long 20]) (rest := []) (v := (some (.int 0))) (h1 := (hG σ sr ln Lc μ)) rfl rfl rfl (sp_X12_in_b (d + 1) _ _ _ _ ((am_in64c (n := 21) (by decide)).trans hn21)) ?_
  refine am_g 2 34 [some (.ref 47), some (.int (nI s)), some (.int k), some (.int a), some (.int n), none] [.int (-2)] (hG σ sr ln Lc μ) rfl ?_
  exact am_ret2 rfl rfl rfl rfl rfl
theorem sp_X12_taped_m (d : Nat) (s : Nat) (hs : s < 4) (k a n : Int32) (hs3 : am_in k 3 = true) (hn21 : am_in n 21 = true) (h : μ 33 s = 0) : am_X xs LL (d + 3) 206 [.ref 47, .int (nI s), .int k, .int a, .int n] (hG σ sr ln Lc μ) (some (.int (-11))) (hG σ sr ln Lc μ) := by
  refine am_XR (d := d + 2) (C := cd_X12_taped) (L := [some (.ref 47), some (.int (nI s)), some (.int k), some (.int a), some (.int n), none]) rfl rfl rfl rfl ?_
  refine am_g 1 1 [some (.ref 47), some (.int (nI s)), some (.int k), some (.int a), some (.int n), none] [.int (nI s)] (hG σ sr ln Lc μ) rfl ?_
  refine am_call (y := 202) (vs := [.int (nI s)]) (rest := []) (v := (some (.int 1))) (h1 := (hG σ sr ln Lc μ)) rfl rfl rfl (sp_X12_isSheet d _ _ (am_in_of_nI hs (by omega))) ?_
  refine am_g 5 13 [some (.ref 47), some (.int (nI s)), some (.int k), some (.int a), some (.int n), none] [.long 2, .long 0, .long (k.toInt64)] (hG σ sr ln Lc μ) rfl ?_
  refine am_call (y := 140) (vs := [.long (k.toInt64), .long 0, .long 2]) (rest := []) (v := (some (.int 1))) (h1 := (hG σ sr ln Lc μ)) rfl rfl rfl (sp_X12_in_b (d + 1) _ _ _ _ ((am_in64c (n := 3) (by decide)).trans hs3)) ?_
  refine am_g 5 26 [some (.ref 47), some (.int (nI s)), some (.int k), some (.int a), some (.int n), none] [.long 20, .long 0, .long (n.toInt64)] (hG σ sr ln Lc μ) rfl ?_
  refine am_call (y := 140) (vs := [.long (n.toInt64), .long 0, .long 20]) (rest := []) (v := (some (.int 1))) (h1 := (hG σ sr ln Lc μ)) rfl rfl rfl (sp_X12_in_b (d + 1) _ _ _ _ ((am_in64c (n := 21) (by decide)).trans hn21)) ?_
  refine am_g 4 40 [some (.ref 47), some (.int (nI s)), some (.int k), some (.int a), some (.int n), none] [.int (nI s), .ref 71] (hG σ sr ln Lc μ) rfl ?_
  refine am_baldV (n := 4) (f := (μ 33)) (k := s) (w := 0) rfl rfl (rfl) (by omega) (by decide) (h) ?_
  refine am_g 4 62 [some (.ref 47), some (.int (nI s)), some (.int k), some (.int a), some (.int n), none] [.int (nI s), .ref 71] (hG σ sr ln Lc μ) rfl ?_
  refine am_baldV (n := 4) (f := (μ 33)) (k := s) (w := 0) rfl rfl (rfl) (by omega) (by decide) (h) ?_
  refine am_g 2 68 [some (.ref 47), some (.int (nI s)), some (.int k), some (.int a), some (.int n), none] [.int (-11)] (hG σ sr ln Lc μ) rfl ?_
  exact am_ret2 rfl rfl rfl rfl rfl
theorem sp_X12_taped_x (d : Nat) (s : Nat) (hs : s < 4) (k a n : Int32) (hs3 : am_in k 3 = true) (hn21 : am_in n 21 = true) (h : μ 33 s = 1) (hx : ¬ μ 34 s = k) : am_X xs LL (d + 3) 206 [.ref 47, .int (nI s), .int k, .int a, .int n] (hG σ sr ln Lc μ) (some (.int (-13))) (hG σ sr ln Lc μ) := by
  refine am_XR (d := d + 2) (C := cd_X12_taped) (L := [some (.ref 47), some (.int (nI s)), some (.int k), some (.int a), some (.int n), none]) rfl rfl rfl rfl ?_
  refine am_g 1 1 [some (.ref 47), some (.int (nI s)), some (.int k), some (.int a), some (.int n), none] [.int (nI s)] (hG σ sr ln Lc μ) rfl ?_
  refine am_call (y := 202) (vs := [.int (nI s)]) (rest := []) (v := (some (.int 1))) (h1 := (hG σ sr ln Lc μ)) rfl rfl rfl (sp_X12_isSheet d _ _ (am_in_of_nI hs (by omega))) ?_
  refine am_g 5 13 [some (.ref 47), some (.int (nI s)), some (.int k), some (.int a), some (.int n), none] [.long 2, .long 0, .long (k.toInt64)] (hG σ sr ln Lc μ) rfl ?_
  refine am_call (y := 140) (vs := [.long (k.toInt64), .long 0, .long 2]) (rest := []) (v := (some (.int 1))) (h1 := (hG σ sr ln Lc μ)) rfl rfl rfl (sp_X12_in_b (d + 1) _ _ _ _ ((am_in64c (n := 3) (by decide)).trans hs3)) ?_
  refine am_g 5 26 [some (.ref 47), some (.int (nI s)), some (.int k), some (.int a), some (.int n), none] [.long 20, .long 0, .long (n.toInt64)] (hG σ sr ln Lc μ) rfl ?_
  refine am_call (y := 140) (vs := [.long (n.toInt64), .long 0, .long 20]) (rest := []) (v := (some (.int 1))) (h1 := (hG σ sr ln Lc μ)) rfl rfl rfl (sp_X12_in_b (d + 1) _ _ _ _ ((am_in64c (n := 21) (by decide)).trans hn21)) ?_
  refine am_g 4 40 [some (.ref 47), some (.int (nI s)), some (.int k), some (.int a), some (.int n), none] [.int (nI s), .ref 71] (hG σ sr ln Lc μ) rfl ?_
  refine am_baldV (n := 4) (f := (μ 33)) (k := s) (w := 1) rfl rfl (rfl) (by omega) (by decide) (h) ?_
  refine am_g 4 49 [some (.ref 47), some (.int (nI s)), some (.int k), some (.int a), some (.int n), none] [.int (nI s), .ref 72] (hG σ sr ln Lc μ) rfl ?_
  refine am_ialdR (n := 4) (f := (μ 34)) (k := s) rfl rfl (rfl) (by omega) (by decide) ?_
  refine am_g 2 (if (μ 34 s) = k then 57 else 54) [some (.ref 47), some (.int (nI s)), some (.int k), some (.int a), some (.int n), none] [] (hG σ sr ln Lc μ) rfl ?_
  rw [if_neg (show ¬ (μ 34 s) = k from hx)]
  refine am_g 1 56 [some (.ref 47), some (.int (nI s)), some (.int k), some (.int a), some (.int n), none] [.int (-13)] (hG σ sr ln Lc μ) rfl ?_
  exact am_ret2 rfl rfl rfl rfl rfl
def pu_cvT (z : Nat) (a n : Int32) : Bool := decide (¬ a < 0 ∧ a ≤ nI z - n)
theorem sp_X12_taped_o (d : Nat) (s : Nat) (hs : s < 4) (k a n : Int32) (hs3 : am_in k 3 = true) (hn21 : am_in n 21 = true) (h : μ 33 s = 1) (hx : μ 34 s = k) {z : Nat} (hz : μ 35 s = nI z) (hz40 : z ≤ 40) (hn0 : ¬ n ≤ 0) (hc : pu_cvT z a n = false) : am_X xs LL (d + 3) 206 [.ref 47, .int (nI s), .int k, .int a, .int n] (hG σ sr ln Lc μ) (some (.int (-12))) (hG σ sr ln Lc μ) := by
  refine am_XR (d := d + 2) (C := cd_X12_taped) (L := [some (.ref 47), some (.int (nI s)), some (.int k), some (.int a), some (.int n), none]) rfl rfl rfl rfl ?_
  refine am_g 1 1 [some (.ref 47), some (.int (nI s)), some (.int k), some (.int a), some (.int n), none] [.int (nI s)] (hG σ sr ln Lc μ) rfl ?_
  refine am_call (y := 202) (vs := [.int (nI s)]) (rest := []) (v := (some (.int 1))) (h1 := (hG σ sr ln Lc μ)) rfl rfl rfl (sp_X12_isSheet d _ _ (am_in_of_nI hs (by omega))) ?_
  refine am_g 5 13 [some (.ref 47), some (.int (nI s)), some (.int k), some (.int a), some (.int n), none] [.long 2, .long 0, .long (k.toInt64)] (hG σ sr ln Lc μ) rfl ?_
  refine am_call (y := 140) (vs := [.long (k.toInt64), .long 0, .long 2]) (rest := []) (v := (some (.int 1))) (h1 := (hG σ sr ln Lc μ)) rfl rfl rfl (sp_X12_in_b (d + 1) _ _ _ _ ((am_in64c (n := 3) (by decide)).trans hs3)) ?_
  refine am_g 5 26 [some (.ref 47), some (.int (nI s)), some (.int k), some (.int a), some (.int n), none] [.long 20, .long 0, .long (n.toInt64)] (hG σ sr ln Lc μ) rfl ?_
  refine am_call (y := 140) (vs := [.long (n.toInt64), .long 0, .long 20]) (rest := []) (v := (some (.int 1))) (h1 := (hG σ sr ln Lc μ)) rfl rfl rfl (sp_X12_in_b (d + 1) _ _ _ _ ((am_in64c (n := 21) (by decide)).trans hn21)) ?_
  refine am_g 4 40 [some (.ref 47), some (.int (nI s)), some (.int k), some (.int a), some (.int n), none] [.int (nI s), .ref 71] (hG σ sr ln Lc μ) rfl ?_
  refine am_baldV (n := 4) (f := (μ 33)) (k := s) (w := 1) rfl rfl (rfl) (by omega) (by decide) (h) ?_
  refine am_g 4 49 [some (.ref 47), some (.int (nI s)), some (.int k), some (.int a), some (.int n), none] [.int (nI s), .ref 72] (hG σ sr ln Lc μ) rfl ?_
  refine am_ialdR (n := 4) (f := (μ 34)) (k := s) rfl rfl (rfl) (by omega) (by decide) ?_
  refine am_g 2 (if (μ 34 s) = k then 57 else 54) [some (.ref 47), some (.int (nI s)), some (.int k), some (.int a), some (.int n), none] [] (hG σ sr ln Lc μ) rfl ?_
  rw [if_pos (show (μ 34 s) = k from hx)]
  refine am_g 3 62 [some (.ref 47), some (.int (nI s)), some (.int k), some (.int a), some (.int n), none] [.int (nI s), .ref 71] (hG σ sr ln Lc μ) rfl ?_
  refine am_baldV (n := 4) (f := (μ 33)) (k := s) (w := 1) rfl rfl (rfl) (by omega) (by decide) (h) ?_
  refine am_g 3 (if n ≤ 0 then 94 else 74) [some (.ref 47), some (.int (nI s)), some (.int k), some (.int a), some (.int n), none] [] (hG σ sr ln Lc μ) rfl ?_
  rw [if_neg (show ¬ n ≤ 0 from hn0)]
  refine am_g 2 (if a < 0 then 91 else 78) [some (.ref 47), some (.int (nI s)), some (.int k), some (.int a), some (.int n), none] [] (hG σ sr ln Lc μ) rfl (am_brR (fun c1 => ?_) (fun c1 => ?_))
  · skip
    refine am_g 1 93 [some (.ref 47), some (.int (nI s)), some (.int k), some (.int a), some (.int n), none] [.int (-12)] (hG σ sr ln Lc μ) rfl ?_
    exact am_ret2 rfl rfl rfl rfl rfl
  · skip
    refine am_g 4 84 [some (.ref 47), some (.int (nI s)), some (.int k), some (.int a), some (.int n), none] [.int (nI s), .ref 73, .int a] (hG σ sr ln Lc μ) rfl ?_
    refine am_ialdV (n := 4) (f := (μ 35)) (k := s) (w := (nI z)) rfl rfl (rfl) (by omega) (by decide) (hz) ?_
    refine am_g 3 (if a ≤ ((nI z) - n) then 94 else 91) [some (.ref 47), some (.int (nI s)), some (.int k), some (.int a), some (.int n), none] [] (hG σ sr ln Lc μ) rfl (am_brR (fun c2 => ?_) (fun c2 => ?_))
    · skip
      exact absurd hc (by unfold pu_cvT; rw [decide_eq_true ⟨c1, c2⟩]; decide)
    · skip
      refine am_g 1 93 [some (.ref 47), some (.int (nI s)), some (.int k), some (.int a), some (.int n), none] [.int (-12)] (hG σ sr ln Lc μ) rfl ?_
      exact am_ret2 rfl rfl rfl rfl rfl
theorem sp_X12_taped_f0 (d : Nat) (s : Nat) (hs : s < 4) (k a n : Int32) (hs3 : am_in k 3 = true) (hn21 : am_in n 21 = true) (h : μ 33 s = 1) (hx : μ 34 s = k) {z : Nat} (hz : μ 35 s = nI z) (hz40 : z ≤ 40) (hn0 : ¬ n ≤ 0) (hc1 : ¬ a < 0) (hc2 : a ≤ nI z - n) (hr : 20 < μ 21 0 + n) : am_X xs LL (d + 3) 206 [.ref 47, .int (nI s), .int k, .int a, .int n] (hG σ sr ln Lc μ) (some (.int (-4))) (hG σ sr ln Lc μ) := by
  refine am_XR (d := d + 2) (C := cd_X12_taped) (L := [some (.ref 47), some (.int (nI s)), some (.int k), some (.int a), some (.int n), none]) rfl rfl rfl rfl ?_
  refine am_g 1 1 [some (.ref 47), some (.int (nI s)), some (.int k), some (.int a), some (.int n), none] [.int (nI s)] (hG σ sr ln Lc μ) rfl ?_
  refine am_call (y := 202) (vs := [.int (nI s)]) (rest := []) (v := (some (.int 1))) (h1 := (hG σ sr ln Lc μ)) rfl rfl rfl (sp_X12_isSheet d _ _ (am_in_of_nI hs (by omega))) ?_
  refine am_g 5 13 [some (.ref 47), some (.int (nI s)), some (.int k), some (.int a), some (.int n), none] [.long 2, .long 0, .long (k.toInt64)] (hG σ sr ln Lc μ) rfl ?_
  refine am_call (y := 140) (vs := [.long (k.toInt64), .long 0, .long 2]) (rest := []) (v := (some (.int 1))) (h1 := (hG σ sr ln Lc μ)) rfl rfl rfl (sp_X12_in_b (d + 1) _ _ _ _ ((am_in64c (n := 3) (by decide)).trans hs3)) ?_
  refine am_g 5 26 [some (.ref 47), some (.int (nI s)), some (.int k), some (.int a), some (.int n), none] [.long 20, .long 0, .long (n.toInt64)] (hG σ sr ln Lc μ) rfl ?_
  refine am_call (y := 140) (vs := [.long (n.toInt64), .long 0, .long 20]) (rest := []) (v := (some (.int 1))) (h1 := (hG σ sr ln Lc μ)) rfl rfl rfl (sp_X12_in_b (d + 1) _ _ _ _ ((am_in64c (n := 21) (by decide)).trans hn21)) ?_
  refine am_g 4 40 [some (.ref 47), some (.int (nI s)), some (.int k), some (.int a), some (.int n), none] [.int (nI s), .ref 71] (hG σ sr ln Lc μ) rfl ?_
  refine am_baldV (n := 4) (f := (μ 33)) (k := s) (w := 1) rfl rfl (rfl) (by omega) (by decide) (h) ?_
  refine am_g 4 49 [some (.ref 47), some (.int (nI s)), some (.int k), some (.int a), some (.int n), none] [.int (nI s), .ref 72] (hG σ sr ln Lc μ) rfl ?_
  refine am_ialdR (n := 4) (f := (μ 34)) (k := s) rfl rfl (rfl) (by omega) (by decide) ?_
  refine am_g 2 (if (μ 34 s) = k then 57 else 54) [some (.ref 47), some (.int (nI s)), some (.int k), some (.int a), some (.int n), none] [] (hG σ sr ln Lc μ) rfl ?_
  rw [if_pos (show (μ 34 s) = k from hx)]
  refine am_g 3 62 [some (.ref 47), some (.int (nI s)), some (.int k), some (.int a), some (.int n), none] [.int (nI s), .ref 71] (hG σ sr ln Lc μ) rfl ?_
  refine am_baldV (n := 4) (f := (μ 33)) (k := s) (w := 1) rfl rfl (rfl) (by omega) (by decide) (h) ?_
  refine am_g 3 (if n ≤ 0 then 94 else 74) [some (.ref 47), some (.int (nI s)), some (.int k), some (.int a), some (.int n), none] [] (hG σ sr ln Lc μ) rfl ?_
  rw [if_neg (show ¬ n ≤ 0 from hn0)]
  refine am_g 2 (if a < 0 then 91 else 78) [some (.ref 47), some (.int (nI s)), some (.int k), some (.int a), some (.int n), none] [] (hG σ sr ln Lc μ) rfl ?_
  rw [if_neg (show ¬ a < 0 from hc1)]
  refine am_g 4 84 [some (.ref 47), some (.int (nI s)), some (.int k), some (.int a), some (.int n), none] [.int (nI s), .ref 73, .int a] (hG σ sr ln Lc μ) rfl ?_
  refine am_ialdV (n := 4) (f := (μ 35)) (k := s) (w := (nI z)) rfl rfl (rfl) (by omega) (by decide) (hz) ?_
  refine am_g 3 (if a ≤ ((nI z) - n) then 94 else 91) [some (.ref 47), some (.int (nI s)), some (.int k), some (.int a), some (.int n), none] [] (hG σ sr ln Lc μ) rfl ?_
  rw [if_pos (show a ≤ ((nI z) - n) from hc2)]
  refine am_g 6 (if ((μ 21 0) + n) ≤ 20 then 109 else 106) [some (.ref 47), some (.int (nI s)), some (.int k), some (.int a), some (.int n), none] [] (hG σ sr ln Lc μ) rfl ?_
  rw [if_neg (show ¬ ((μ 21 0) + n) ≤ 20 from (Int32.not_le.mpr hr))]
  refine am_g 1 108 [some (.ref 47), some (.int (nI s)), some (.int k), some (.int a), some (.int n), none] [.int (-4)] (hG σ sr ln Lc μ) rfl ?_
  exact am_ret2 rfl rfl rfl rfl rfl
theorem sp_X12_taped_f1 (d : Nat) (s : Nat) (hs : s < 4) (k a n : Int32) (hs3 : am_in k 3 = true) (hn21 : am_in n 21 = true) (h : μ 33 s = 1) (hx : μ 34 s = k) {z : Nat} (hz : μ 35 s = nI z) (hz40 : z ≤ 40) (hn0 : n ≤ 0) (hr : 20 < μ 21 0 + n) : am_X xs LL (d + 3) 206 [.ref 47, .int (nI s), .int k, .int a, .int n] (hG σ sr ln Lc μ) (some (.int (-4))) (hG σ sr ln Lc μ) := by
  refine am_XR (d := d + 2) (C := cd_X12_taped) (L := [some (.ref 47), some (.int (nI s)), some (.int k), some (.int a), some (.int n), none]) rfl rfl rfl rfl ?_
  refine am_g 1 1 [some (.ref 47), some (.int (nI s)), some (.int k), some (.int a), some (.int n), none] [.int (nI s)] (hG σ sr ln Lc μ) rfl ?_
  refine am_call (y := 202) (vs := [.int (nI s)]) (rest := []) (v := (some (.int 1))) (h1 := (hG σ sr ln Lc μ)) rfl rfl rfl (sp_X12_isSheet d _ _ (am_in_of_nI hs (by omega))) ?_
  refine am_g 5 13 [some (.ref 47), some (.int (nI s)), some (.int k), some (.int a), some (.int n), none] [.long 2, .long 0, .long (k.toInt64)] (hG σ sr ln Lc μ) rfl ?_
  refine am_call (y := 140) (vs := [.long (k.toInt64), .long 0, .long 2]) (rest := []) (v := (some (.int 1))) (h1 := (hG σ sr ln Lc μ)) rfl rfl rfl (sp_X12_in_b (d + 1) _ _ _ _ ((am_in64c (n := 3) (by decide)).trans hs3)) ?_
  refine am_g 5 26 [some (.ref 47), some (.int (nI s)), some (.int k), some (.int a), some (.int n), none] [.long 20, .long 0, .long (n.toInt64)] (hG σ sr ln Lc μ) rfl ?_
  refine am_call (y := 140) (vs := [.long (n.toInt64), .long 0, .long 20]) (rest := []) (v := (some (.int 1))) (h1 := (hG σ sr ln Lc μ)) rfl rfl rfl (sp_X12_in_b (d + 1) _ _ _ _ ((am_in64c (n := 21) (by decide)).trans hn21)) ?_
  refine am_g 4 40 [some (.ref 47), some (.int (nI s)), some (.int k), some (.int a), some (.int n), none] [.int (nI s), .ref 71] (hG σ sr ln Lc μ) rfl ?_
  refine am_baldV (n := 4) (f := (μ 33)) (k := s) (w := 1) rfl rfl (rfl) (by omega) (by decide) (h) ?_
  refine am_g 4 49 [some (.ref 47), some (.int (nI s)), some (.int k), some (.int a), some (.int n), none] [.int (nI s), .ref 72] (hG σ sr ln Lc μ) rfl ?_
  refine am_ialdR (n := 4) (f := (μ 34)) (k := s) rfl rfl (rfl) (by omega) (by decide) ?_
  refine am_g 2 (if (μ 34 s) = k then 57 else 54) [some (.ref 47), some (.int (nI s)), some (.int k), some (.int a), some (.int n), none] [] (hG σ sr ln Lc μ) rfl ?_
  rw [if_pos (show (μ 34 s) = k from hx)]
  refine am_g 3 62 [some (.ref 47), some (.int (nI s)), some (.int k), some (.int a), some (.int n), none] [.int (nI s), .ref 71] (hG σ sr ln Lc μ) rfl ?_
  refine am_baldV (n := 4) (f := (μ 33)) (k := s) (w := 1) rfl rfl (rfl) (by omega) (by decide) (h) ?_
  refine am_g 3 (if n ≤ 0 then 94 else 74) [some (.ref 47), some (.int (nI s)), some (.int k), some (.int a), some (.int n), none] [] (hG σ sr ln Lc μ) rfl ?_
  rw [if_pos (show n ≤ 0 from hn0)]
  refine am_g 6 (if ((μ 21 0) + n) ≤ 20 then 109 else 106) [some (.ref 47), some (.int (nI s)), some (.int k), some (.int a), some (.int n), none] [] (hG σ sr ln Lc μ) rfl ?_
  rw [if_neg (show ¬ ((μ 21 0) + n) ≤ 20 from (Int32.not_le.mpr hr))]
  refine am_g 1 108 [some (.ref 47), some (.int (nI s)), some (.int k), some (.int a), some (.int n), none] [.int (-4)] (hG σ sr ln Lc μ) rfl ?_
  exact am_ret2 rfl rfl rfl rfl rfl
theorem sp_X12_taped_z (d : Nat) (s : Nat) (hs : s < 4) (k a : Int32) (hs3 : am_in k 3 = true) (h : μ 33 s = 1) (hx : μ 34 s = k) {z : Nat} (hz : μ 35 s = nI z) (hz40 : z ≤ 40) {T : Nat} (hT : μ 21 0 = nI T) (hT20 : T ≤ 20) : am_X xs LL (d + 3) 206 [.ref 47, .int (nI s), .int k, .int a, .int 0] (hG σ sr ln Lc μ) (some (.int (μ 21 0))) (hG σ sr ln Lc μ) := by
  refine am_XR (d := d + 2) (C := cd_X12_taped) (L := [some (.ref 47), some (.int (nI s)), some (.int k), some (.int a), some (.int 0), none]) rfl rfl rfl rfl ?_
  refine am_g 1 1 [some (.ref 47), some (.int (nI s)), some (.int k), some (.int a), some (.int 0), none] [.int (nI s)] (hG σ sr ln Lc μ) rfl ?_
  refine am_call (y := 202) (vs := [.int (nI s)]) (rest := []) (v := (some (.int 1))) (h1 := (hG σ sr ln Lc μ)) rfl rfl rfl (sp_X12_isSheet d _ _ (am_in_of_nI hs (by omega))) ?_
  refine am_g 5 13 [some (.ref 47), some (.int (nI s)), some (.int k), some (.int a), some (.int 0), none] [.long 2, .long 0, .long (k.toInt64)] (hG σ sr ln Lc μ) rfl ?_
  refine am_call (y := 140) (vs := [.long (k.toInt64), .long 0, .long 2]) (rest := []) (v := (some (.int 1))) (h1 := (hG σ sr ln Lc μ)) rfl rfl rfl (sp_X12_in_b (d + 1) _ _ _ _ ((am_in64c (n := 3) (by decide)).trans hs3)) ?_
  refine am_g 5 26 [some (.ref 47), some (.int (nI s)), some (.int k), some (.int a), some (.int 0), none] [.long 20, .long 0, .long ((0 : Int32).toInt64)] (hG σ sr ln Lc μ) rfl ?_
  refine am_call (y := 140) (vs := [.long ((0 : Int32).toInt64), .long 0, .long 20]) (rest := []) (v := (some (.int 1))) (h1 := (hG σ sr ln Lc μ)) rfl rfl rfl (sp_X12_in_b (d + 1) _ _ _ _ (show decide ((0 : Int64) ≤ (0 : Int32).toInt64 ∧ (0 : Int32).toInt64 ≤ 20) = true from by decide)) ?_
  refine am_g 4 40 [some (.ref 47), some (.int (nI s)), some (.int k), some (.int a), some (.int 0), none] [.int (nI s), .ref 71] (hG σ sr ln Lc μ) rfl ?_
  refine am_baldV (n := 4) (f := (μ 33)) (k := s) (w := 1) rfl rfl (rfl) (by omega) (by decide) (h) ?_
  refine am_g 4 49 [some (.ref 47), some (.int (nI s)), some (.int k), some (.int a), some (.int 0), none] [.int (nI s), .ref 72] (hG σ sr ln Lc μ) rfl ?_
  refine am_ialdR (n := 4) (f := (μ 34)) (k := s) rfl rfl (rfl) (by omega) (by decide) ?_
  refine am_g 2 (if (μ 34 s) = k then 57 else 54) [some (.ref 47), some (.int (nI s)), some (.int k), some (.int a), some (.int 0), none] [] (hG σ sr ln Lc μ) rfl ?_
  rw [if_pos (show (μ 34 s) = k from hx)]
  refine am_g 3 62 [some (.ref 47), some (.int (nI s)), some (.int k), some (.int a), some (.int 0), none] [.int (nI s), .ref 71] (hG σ sr ln Lc μ) rfl ?_
  refine am_baldV (n := 4) (f := (μ 33)) (k := s) (w := 1) rfl rfl (rfl) (by omega) (by decide) (h) ?_
  refine am_g 9 (if ((μ 21 0) + 0) ≤ 20 then 109 else 106) [some (.ref 47), some (.int (nI s)), some (.int k), some (.int a), some (.int 0), none] [] (hG σ sr ln Lc μ) rfl ?_
  rw [if_pos (show ((μ 21 0) + 0) ≤ 20 from (by rw [hT, Int32.add_zero]; exact nI_le hT20 (by decide)))]
  refine am_g 7 166 [some (.ref 47), some (.int (nI s)), some (.int k), some (.int a), some (.int 0), some (.int 0)] [.int (μ 21 0)] (hG σ sr ln Lc μ) rfl ?_
  exact am_ret2 rfl rfl rfl rfl rfl
theorem sp_X12_taped_q (d : Nat) (s : Nat) (hs : s < 4) (k : Int32) (a n : Nat) (hs3 : am_in k 3 = true) (hn21 : am_in (nI n) 21 = true) (hn0 : ¬ nI n ≤ 0) (h : μ 33 s = 1) (hx : μ 34 s = k) {z : Nat} (hz : μ 35 s = nI z) (hz40 : z ≤ 40) (han : a + n ≤ z) {T : Nat} (hT : μ 21 0 = nI T) (hT20 : T ≤ 20) (hr : T + n ≤ 20) : am_X xs LL (d + 3) 206 [.ref 47, .int (nI s), .int k, .int (nI a), .int (nI n)] (hG σ sr ln Lc μ) (some (.int (nI (T + n)))) (hG σ sr ln Lc (am_us (am_up μ 20 (am_fill (fun k => (μ 36 (40 * s + a + (k - T))) &&& 255) (μ 20) (T + n) T)) 21 (nI (T + n)))) := by
  refine am_XR (d := d + 2) (C := cd_X12_taped) (L := [some (.ref 47), some (.int (nI s)), some (.int k), some (.int (nI a)), some (.int (nI n)), none]) rfl rfl rfl rfl ?_
  refine am_g 1 1 [some (.ref 47), some (.int (nI s)), some (.int k), some (.int (nI a)), some (.int (nI n)), none] [.int (nI s)] (hG σ sr ln Lc μ) rfl ?_
  refine am_call (y := 202) (vs := [.int (nI s)]) (rest := []) (v := (some (.int 1))) (h1 := (hG σ sr ln Lc μ)) rfl rfl rfl (sp_X12_isSheet d _ _ (am_in_of_nI hs (by omega))) ?_
  refine am_g 5 13 [some (.ref 47), some (.int (nI s)), some (.int k), some (.int (nI a)), some (.int (nI n)), none] [.long 2, .long 0, .long (k.toInt64)] (hG σ sr ln Lc μ) rfl ?_
  refine am_call (y := 140) (vs := [.long (k.toInt64), .long 0, .long 2]) (rest := []) (v := (some (.int 1))) (h1 := (hG σ sr ln Lc μ)) rfl rfl rfl (sp_X12_in_b (d + 1) _ _ _ _ ((am_in64c (n := 3) (by decide)).trans hs3)) ?_
  refine am_g 5 26 [some (.ref 47), some (.int (nI s)), some (.int k), some (.int (nI a)), some (.int (nI n)), none] [.long 20, .long 0, .long ((nI n).toInt64)] (hG σ sr ln Lc μ) rfl ?_
  refine am_call (y := 140) (vs := [.long ((nI n).toInt64), .long 0, .long 20]) (rest := []) (v := (some (.int 1))) (h1 := (hG σ sr ln Lc μ)) rfl rfl rfl (sp_X12_in_b (d + 1) _ _ _ _ ((am_in64c (n := 21) (by decide)).trans hn21)) ?_
  refine am_g 4 40 [some (.ref 47), some (.int (nI s)), some (.int k), some (.int (nI a)), some (.int (nI n)), none] [.int (nI s), .ref 71] (hG σ sr ln Lc μ) rfl ?_
  refine am_baldV (n := 4) (f := (μ 33)) (k := s) (w := 1) rfl rfl (rfl) (by omega) (by decide) (h) ?_
  refine am_g 4 49 [some (.ref 47), some (.int (nI s)), some (.int k), some (.int (nI a)), some (.int (nI n)), none] [.int (nI s), .ref 72] (hG σ sr ln Lc μ) rfl ?_
  refine am_ialdR (n := 4) (f := (μ 34)) (k := s) rfl rfl (rfl) (by omega) (by decide) ?_
  refine am_g 2 (if (μ 34 s) = k then 57 else 54) [some (.ref 47), some (.int (nI s)), some (.int k), some (.int (nI a)), some (.int (nI n)), none] [] (hG σ sr ln Lc μ) rfl ?_
  rw [if_pos (show (μ 34 s) = k from hx)]
  refine am_g 3 62 [some (.ref 47), some (.int (nI s)), some (.int k), some (.int (nI a)), some (.int (nI n)), none] [.int (nI s), .ref 71] (hG σ sr ln Lc μ) rfl ?_
  refine am_baldV (n := 4) (f := (μ 33)) (k := s) (w := 1) rfl rfl (rfl) (by omega) (by decide) (h) ?_
  refine am_g 3 (if (nI n) ≤ 0 then 94 else 74) [some (.ref 47), some (.int (nI s)), some (.int k), some (.int (nI a)), some (.int (nI n)), none] [] (hG σ sr ln Lc μ) rfl ?_
  rw [if_neg (show ¬ (nI n) ≤ 0 from hn0)]
  refine am_g 2 (if (nI a) < 0 then 91 else 78) [some (.ref 47), some (.int (nI s)), some (.int k), some (.int (nI a)), some (.int (nI n)), none] [] (hG σ sr ln Lc μ) rfl ?_
  rw [if_neg (show ¬ (nI a) < 0 from (nI_pos (by omega)))]
  refine am_g 4 84 [some (.ref 47), some (.int (nI s)), some (.int k), some (.int (nI a)), some (.int (nI n)), none] [.int (nI s), .ref 73, .int (nI a)] (hG σ sr ln Lc μ) rfl ?_
  refine am_ialdV (n := 4) (f := (μ 35)) (k := s) (w := (nI z)) rfl rfl (rfl) (by omega) (by decide) (hz) ?_
  refine am_g 3 (if (nI a) ≤ ((nI z) - (nI n)) then 94 else 91) [some (.ref 47), some (.int (nI s)), some (.int k), some (.int (nI a)), some (.int (nI n)), none] [] (hG σ sr ln Lc μ) rfl ?_
  rw [if_pos (show (nI a) ≤ ((nI z) - (nI n)) from (by rw [pc_sub (by omega)]; exact nI_le (by omega) (by omega)))]
  refine am_g 6 (if ((μ 21 0) + (nI n)) ≤ 20 then 109 else 106) [some (.ref 47), some (.int (nI s)), some (.int k), some (.int (nI a)), some (.int (nI n)), none] [] (hG σ sr ln Lc μ) rfl ?_
  rw [if_pos (show ((μ 21 0) + (nI n)) ≤ 20 from (by rw [hT, nI_add]; exact nI_le (by omega) (by decide)))]
  refine am_g 2 112 [some (.ref 47), some (.int (nI s)), some (.int k), some (.int (nI a)), some (.int (nI n)), some (.int 0)] [] (hG σ sr ln Lc μ) rfl ?_
  have lp : ∀ (r i : Nat), i + r = n → am_R xs LL cd_X12_taped (am_X xs LL (d + 2)) 112 [some (.ref 47), some (.int (nI s)), some (.int k), some (.int (nI a)), some (.int (nI n)), some (.int (nI i))] [] (hG σ sr ln Lc (am_us (am_up μ 20 (am_fill (fun k => (μ 36 (40 * s + a + (k - T))) &&& 255) (μ 20) (T + i) T)) 21 (nI (T + i)))) (some (.int (nI (T + n)))) (hG σ sr ln Lc (am_us (am_up μ 20 (am_fill (fun k => (μ 36 (40 * s + a + (k - T))) &&& 255) (μ 20) (T + n) T)) 21 (nI (T + n)))) := by
    intro r
    induction r with
    | zero =>
      intro i  hi
      have hi2 : i = n := by omega
      rw [hi2]
      refine am_g 3 (if (nI n) ≤ (nI n) then 162 else 119) [some (.ref 47), some (.int (nI s)), some (.int k), some (.int (nI a)), some (.int (nI n)), some (.int (nI n))] [] (hG σ sr ln Lc (am_us (am_up μ 20 (am_fill (fun k => (μ 36 (40 * s + a + (k - T))) &&& 255) (μ 20) (T + n) T)) 21 (nI (T + n)))) rfl ?_
      rw [if_pos (show (nI n) ≤ (nI n) from (am_dle (a := n) (b := n) (rfl) (rfl) (by omega) (by omega) (by omega)))]
      refine am_g 2 166 [some (.ref 47), some (.int (nI s)), some (.int k), some (.int (nI a)), some (.int (nI n)), some (.int (nI n))] [.int (nI (T + n))] (hG σ sr ln Lc (am_us (am_up μ 20 (am_fill (fun k => (μ 36 (40 * s + a + (k - T))) &&& 255) (μ 20) (T + n) T)) 21 (nI (T + n)))) rfl ?_
      exact am_ret2 rfl rfl rfl rfl rfl
    | succ r ih =>
      intro i  hi
      have hi2 : i < n := by omega
      refine am_g 3 (if (nI n) ≤ (nI i) then 162 else 119) [some (.ref 47), some (.int (nI s)), some (.int k), some (.int (nI a)), some (.int (nI n)), some (.int (nI i))] [] (hG σ sr ln Lc (am_us (am_up μ 20 (am_fill (fun k => (μ 36 (40 * s + a + (k - T))) &&& 255) (μ 20) (T + i) T)) 21 (nI (T + i)))) rfl ?_
      rw [if_neg (show ¬ (nI n) ≤ (nI i) from (am_dnle (a := n) (b := i) (rfl) (rfl) (by omega) (by omega) (by omega)))]
      refine am_g 13 140 [some (.ref 47), some (.int (nI s)), some (.int k), some (.int (nI a)), some (.int (nI n)), some (.int (nI i))] [.int (((40 * (nI s)) + (nI a)) + (nI i)), .ref 74, .int (nI (T + i)), .ref 64] (hG σ sr ln Lc (am_us (am_up μ 20 (am_fill (fun k => (μ 36 (40 * s + a + (k - T))) &&& 255) (μ 20) (T + i) T)) 21 (nI (T + i)))) rfl ?_
      refine am_ialdR (n := 160) (f := (μ 36)) (k := (((40 * s) + a) + i)) rfl rfl (show ((((nI 40) * (nI s)) + (nI a)) + (nI i)) = nI (((40 * s) + a) + i) from by first | (simp only [nI_mul2, nI_add]; done) | (simp only [nI_mul2, nI_add]; exact congrArg nI (by omega))) (by omega) (by decide) ?_
      refine am_g 2 145 [some (.ref 47), some (.int (nI s)), some (.int k), some (.int (nI a)), some (.int (nI n)), some (.int (nI i))] [.int ((μ 36 (((40 * s) + a) + i)) &&& 255), .int (nI (T + i)), .ref 64] (hG σ sr ln Lc (am_us (am_up μ 20 (am_fill (fun k => (μ 36 (40 * s + a + (k - T))) &&& 255) (μ 20) (T + i) T)) 21 (nI (T + i)))) rfl ?_
      refine am_iastR (n := 20) (f := (am_fill (fun k => (μ 36 (40 * s + a + (k - T))) &&& 255) (μ 20) (T + i) T)) (k := (T + i)) (h1 := (hG σ sr ln Lc (am_up (am_us μ 21 (nI (T + i))) 20 (upd (am_fill (fun k => (μ 36 (40 * s + a + (k - T))) &&& 255) (μ 20) (T + i) T) (T + i) ((μ 36 (((40 * s) + a) + i)) &&& 255))))) rfl rfl (rfl) (by omega) (by decide) rfl ?_
      refine am_g 8 112 [some (.ref 47), some (.int (nI s)), some (.int k), some (.int (nI a)), some (.int (nI n)), some (.int ((nI i) + 1))] [] (hG σ sr ln Lc (am_us (am_up μ 20 (upd (am_fill (fun k => (μ 36 (40 * s + a + (k - T))) &&& 255) (μ 20) (T + i) T) (T + i) ((μ 36 (((40 * s) + a) + i)) &&& 255))) 21 ((nI (T + i)) + 1))) rfl ?_
      rw [nI_up, nI_up, show (upd (am_fill (fun k => (μ 36 (40 * s + a + (k - T))) &&& 255) (μ 20) (T + i) T) (T + i) ((μ 36 (((40 * s) + a) + i)) &&& 255)) = (am_fill (fun k => (μ 36 (40 * s + a + (k - T))) &&& 255) (μ 20) (T + (i + 1)) T) from (pu_fillT (g := fun k => (μ 36 (40 * s + a + (k - T))) &&& 255) (f := μ 20) T i (by show _ = (μ 36 (40 * s + a + (T + i - T))) &&& 255; rw [Nat.add_sub_cancel_left]))]
      exact ih (i + 1) (by omega)
  have e := lp n 0 (by omega)
  rw [show T + 0 = T from rfl, pu_fillTT, am_up_id] at e
  rw [show nI T = μ 21 0 from hT.symm, am_us_idM] at e
  exact e
end RS
