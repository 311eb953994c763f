/-! the reference: the tape read -/
/-- the byte at the place, or -1 past the last one -/
def am_hereF (tape : Nat → Int32) (A T : Nat) : Int32 := if A < T then tape A else -1
section MT
variable {xs : Nat → Int32} {LL : Nat} {σ μ : Nat → Nat → Int32} {sr : Nat → Nat} {ln : Nat → Nat → Int32} {Lc : Nat}
theorem sp_X12_here_lo (d : Nat) {A T : Nat} (hA : μ 22 0 = nI A) (hT : μ 21 0 = nI T) (hA20 : A ≤ 20) (hT20 : T ≤ 20) (h : A < T) : am_X xs LL (d + 1) 157 [.ref 47] (hG σ sr ln Lc μ) (some (.int (μ 20 A))) (hG σ sr ln Lc μ) := by
  refine am_XR (d := d + 0) (C := cd_X12_here) (L := [some (.ref 47)]) rfl rfl rfl rfl ?_
  refine am_g 5 (if (μ 21 0) ≤ (μ 22 0) then 23 else 11) [some (.ref 47)] [] (hG σ sr ln Lc μ) rfl ?_
  rw [if_neg (show ¬ (μ 21 0) ≤ (μ 22 0) from (am_dnle (a := T) (b := A) (hT) (hA) (by omega) (by omega) (by omega)))]
  refine am_g 4 19 [some (.ref 47)] [.int (μ 22 0), .ref 64] (hG σ sr ln Lc μ) rfl ?_
  refine am_ialdR (n := 20) (f := (μ 20)) (k := A) rfl rfl (hA) (by omega) (by decide) ?_
  refine am_g 1 24 [some (.ref 47)] [.int (μ 20 A)] (hG σ sr ln Lc μ) rfl ?_
  exact am_ret2 rfl rfl rfl rfl rfl
theorem sp_X12_here_hi (d : Nat) {A T : Nat} (hA : μ 22 0 = nI A) (hT : μ 21 0 = nI T) (hA20 : A ≤ 20) (hT20 : T ≤ 20) (h : ¬ A < T) : am_X xs LL (d + 1) 157 [.ref 47] (hG σ sr ln Lc μ) (some (.int (-1))) (hG σ sr ln Lc μ) := by
  refine am_XR (d := d + 0) (C := cd_X12_here) (L := [some (.ref 47)]) rfl rfl rfl rfl ?_
  refine am_g 5 (if (μ 21 0) ≤ (μ 22 0) then 23 else 11) [some (.ref 47)] [] (hG σ sr ln Lc μ) rfl ?_
  rw [if_pos (show (μ 21 0) ≤ (μ 22 0) from (am_dle (a := T) (b := A) (hT) (hA) (by omega) (by omega) (by omega)))]
  refine am_g 1 24 [some (.ref 47)] [.int (-1)] (hG σ sr ln Lc μ) rfl ?_
  exact am_ret2 rfl rfl rfl rfl rfl
theorem sp_X12_here (d : Nat) {A T : Nat} (hA : μ 22 0 = nI A) (hT : μ 21 0 = nI T) (hA20 : A ≤ 20) (hT20 : T ≤ 20) : am_X xs LL (d + 1) 157 [.ref 47] (hG σ sr ln Lc μ) (some (.int (am_hereF (μ 20) A T))) (hG σ sr ln Lc μ) := by
  unfold am_hereF
  by_cases h : A < T
  · rw [if_pos h]; exact sp_X12_here_lo d hA hT hA20 hT20 h
  · rw [if_neg h]; exact sp_X12_here_hi d hA hT hA20 hT20 h
theorem sp_X12_sign_skip (d : Nat) (c : Int32) (h0 : ¬ μ 23 0 = 0) : am_X xs LL (d + 1) 158 [.ref 47, .int c] (hG σ sr ln Lc μ) none (hG σ sr ln Lc μ) := by
  refine am_XR (d := d + 0) (C := cd_X12_sign) (L := [some (.ref 47), some (.int c)]) rfl rfl rfl rfl ?_
  refine am_g 3 (if (μ 23 0) = 0 then 8 else 7) [some (.ref 47), some (.int c)] [] (hG σ sr ln Lc μ) rfl ?_
  rw [if_neg (show ¬ (μ 23 0) = 0 from h0)]
  exact am_ret2 rfl rfl rfl rfl rfl
theorem sp_X12_sign_is (d : Nat) {A T : Nat} (hA : μ 22 0 = nI A) (hT : μ 21 0 = nI T) (hA20 : A ≤ 20) (hT20 : T ≤ 20) (c : Int32) (h0 : μ 23 0 = 0) (h : am_hereF (μ 20) A T = c) : am_X xs LL (d + 2) 158 [.ref 47, .int c] (hG σ sr ln Lc μ) none (hG σ sr ln Lc (am_us μ 22 (μ 22 0 + 1))) := by
  refine am_XR (d := d + 1) (C := cd_X12_sign) (L := [some (.ref 47), some (.int c)]) rfl rfl rfl rfl ?_
  refine am_g 3 (if (μ 23 0) = 0 then 8 else 7) [some (.ref 47), some (.int c)] [] (hG σ sr ln Lc μ) rfl ?_
  rw [if_pos (show (μ 23 0) = 0 from h0)]
  refine am_g 1 9 [some (.ref 47), some (.int c)] [.ref 47] (hG σ sr ln Lc μ) rfl ?_
  refine am_call (y := 157) (vs := [.ref 47]) (rest := []) (v := (some (.int (am_hereF (μ 20) A T)))) (h1 := (hG σ sr ln Lc μ)) rfl rfl rfl (sp_X12_here (σ := σ) (μ := μ) d hA hT hA20 hT20) ?_
  refine am_g 2 (if (am_hereF (μ 20) A T) = c then 16 else 29) [some (.ref 47), some (.int c)] [] (hG σ sr ln Lc μ) rfl ?_
  rw [if_pos (show (am_hereF (μ 20) A T) = c from h)]
  refine am_g 7 34 [some (.ref 47), some (.int c)] [] (hG σ sr ln Lc (am_us μ 22 ((μ 22 0) + 1))) rfl ?_
  exact am_ret2 rfl rfl rfl rfl rfl
theorem sp_X12_sign_not (d : Nat) {A T : Nat} (hA : μ 22 0 = nI A) (hT : μ 21 0 = nI T) (hA20 : A ≤ 20) (hT20 : T ≤ 20) (c : Int32) (h0 : μ 23 0 = 0) (h : ¬ am_hereF (μ 20) A T = c) : am_X xs LL (d + 2) 158 [.ref 47, .int c] (hG σ sr ln Lc μ) none (hG σ sr ln Lc (am_us μ 23 1)) := by
  refine am_XR (d := d + 1) (C := cd_X12_sign) (L := [some (.ref 47), some (.int c)]) rfl rfl rfl rfl ?_
  refine am_g 3 (if (μ 23 0) = 0 then 8 else 7) [some (.ref 47), some (.int c)] [] (hG σ sr ln Lc μ) rfl ?_
  rw [if_pos (show (μ 23 0) = 0 from h0)]
  refine am_g 1 9 [some (.ref 47), some (.int c)] [.ref 47] (hG σ sr ln Lc μ) rfl ?_
  refine am_call (y := 157) (vs := [.ref 47]) (rest := []) (v := (some (.int (am_hereF (μ 20) A T)))) (h1 := (hG σ sr ln Lc μ)) rfl rfl rfl (sp_X12_here (σ := σ) (μ := μ) d hA hT hA20 hT20) ?_
  refine am_g 2 (if (am_hereF (μ 20) A T) = c then 16 else 29) [some (.ref 47), some (.int c)] [] (hG σ sr ln Lc μ) rfl ?_
  rw [if_neg (show ¬ (am_hereF (μ 20) A T) = c from h)]
  refine am_g 3 34 [some (.ref 47), some (.int c)] [] (hG σ sr ln Lc (am_us μ 23 1)) rfl ?_
  exact am_ret2 rfl rfl rfl rfl rfl
def am_oneF (x c n : Int32) : Bool := decide (0 ≤ (x - c).toInt64 ∧ (x - c).toInt64 ≤ (n - 1).toInt64)
theorem sp_X12_one_skip (d : Nat) (c n : Int32) (h0 : ¬ μ 23 0 = 0) : am_X xs LL (d + 1) 159 [.ref 47, .int c, .int n] (hG σ sr ln Lc μ) (some (.int 0)) (hG σ sr ln Lc μ) := by
  refine am_XR (d := d + 0) (C := cd_X12_one) (L := [some (.ref 47), some (.int c), some (.int n), none]) rfl rfl rfl rfl ?_
  refine am_g 3 (if (μ 23 0) = 0 then 9 else 7) [some (.ref 47), some (.int c), some (.int n), none] [] (hG σ sr ln Lc μ) rfl ?_
  rw [if_neg (show ¬ (μ 23 0) = 0 from h0)]
  refine am_g 1 8 [some (.ref 47), some (.int c), some (.int n), none] [.int 0] (hG σ sr ln Lc μ) rfl ?_
  exact am_ret2 rfl rfl rfl rfl rfl
theorem sp_X12_one_is (d : Nat) {A T : Nat} (hA : μ 22 0 = nI A) (hT : μ 21 0 = nI T) (hA20 : A ≤ 20) (hT20 : T ≤ 20) (c n : Int32) (h0 : μ 23 0 = 0) (h : ¬ (am_hereF (μ 20) A T) = -1) (hin : am_oneF (am_hereF (μ 20) A T) c n = true) : am_X xs LL (d + 2) 159 [.ref 47, .int c, .int n] (hG σ sr ln Lc μ) (some (.int ((am_hereF (μ 20) A T) - c))) (hG σ sr ln Lc (am_us μ 22 (μ 22 0 + 1))) := by
  refine am_XR (d := d + 1) (C := cd_X12_one) (L := [some (.ref 47), some (.int c), some (.int n), none]) rfl rfl rfl rfl ?_
  refine am_g 3 (if (μ 23 0) = 0 then 9 else 7) [some (.ref 47), some (.int c), some (.int n), none] [] (hG σ sr ln Lc μ) rfl ?_
  rw [if_pos (show (μ 23 0) = 0 from h0)]
  refine am_g 1 10 [some (.ref 47), some (.int c), some (.int n), none] [.ref 47] (hG σ sr ln Lc μ) rfl ?_
  refine am_call (y := 157) (vs := [.ref 47]) (rest := []) (v := (some (.int (am_hereF (μ 20) A T)))) (h1 := (hG σ sr ln Lc μ)) rfl rfl rfl (sp_X12_here (σ := σ) (μ := μ) d hA hT hA20 hT20) ?_
  refine am_g 4 17 [some (.ref 47), some (.int c), some (.int n), some (.int ((am_hereF (μ 20) A T) - c))] [.ref 47] (hG σ sr ln Lc μ) rfl ?_
  refine am_call (y := 157) (vs := [.ref 47]) (rest := []) (v := (some (.int (am_hereF (μ 20) A T)))) (h1 := (hG σ sr ln Lc μ)) rfl rfl rfl (sp_X12_here (σ := σ) (μ := μ) d hA hT hA20 hT20) ?_
  refine am_g 2 (if (am_hereF (μ 20) A T) = (-1) then 37 else 24) [some (.ref 47), some (.int c), some (.int n), some (.int ((am_hereF (μ 20) A T) - c))] [] (hG σ sr ln Lc μ) rfl ?_
  rw [if_neg (show ¬ (am_hereF (μ 20) A T) = (-1) from h)]
  refine am_g 7 31 [some (.ref 47), some (.int c), some (.int n), some (.int ((am_hereF (μ 20) A T) - c))] [.long ((n - 1).toInt64), .long 0, .long (((am_hereF (μ 20) A T) - c).toInt64)] (hG σ sr ln Lc μ) rfl ?_
  refine am_call (y := 140) (vs := [.long (((am_hereF (μ 20) A T) - c).toInt64), .long 0, .long ((n - 1).toInt64)]) (rest := []) (v := (some (.int 1))) (h1 := (hG σ sr ln Lc μ)) rfl rfl rfl (sp_X12_in_b d _ _ _ _ hin) ?_
  refine am_g 8 55 [some (.ref 47), some (.int c), some (.int n), some (.int ((am_hereF (μ 20) A T) - c))] [.int ((am_hereF (μ 20) A T) - c)] (hG σ sr ln Lc (am_us μ 22 ((μ 22 0) + 1))) rfl ?_
  exact am_ret2 rfl rfl rfl rfl rfl
theorem sp_X12_one_end (d : Nat) {A T : Nat} (hA : μ 22 0 = nI A) (hT : μ 21 0 = nI T) (hA20 : A ≤ 20) (hT20 : T ≤ 20) (c n : Int32) (h0 : μ 23 0 = 0) (h : (am_hereF (μ 20) A T) = -1) : am_X xs LL (d + 2) 159 [.ref 47, .int c, .int n] (hG σ sr ln Lc μ) (some (.int 0)) (hG σ sr ln Lc (am_us μ 23 1)) := by
  refine am_XR (d := d + 1) (C := cd_X12_one) (L := [some (.ref 47), some (.int c), some (.int n), none]) rfl rfl rfl rfl ?_
  refine am_g 3 (if (μ 23 0) = 0 then 9 else 7) [some (.ref 47), some (.int c), some (.int n), none] [] (hG σ sr ln Lc μ) rfl ?_
  rw [if_pos (show (μ 23 0) = 0 from h0)]
  refine am_g 1 10 [some (.ref 47), some (.int c), some (.int n), none] [.ref 47] (hG σ sr ln Lc μ) rfl ?_
  refine am_call (y := 157) (vs := [.ref 47]) (rest := []) (v := (some (.int (am_hereF (μ 20) A T)))) (h1 := (hG σ sr ln Lc μ)) rfl rfl rfl (sp_X12_here (σ := σ) (μ := μ) d hA hT hA20 hT20) ?_
  refine am_g 4 17 [some (.ref 47), some (.int c), some (.int n), some (.int ((am_hereF (μ 20) A T) - c))] [.ref 47] (hG σ sr ln Lc μ) rfl ?_
  refine am_call (y := 157) (vs := [.ref 47]) (rest := []) (v := (some (.int (am_hereF (μ 20) A T)))) (h1 := (hG σ sr ln Lc μ)) rfl rfl rfl (sp_X12_here (σ := σ) (μ := μ) d hA hT hA20 hT20) ?_
  refine am_g 2 (if (am_hereF (μ 20) A T) = (-1) then 37 else 24) [some (.ref 47), some (.int c), some (.int n), some (.int ((am_hereF (μ 20) A T) - c))] [] (hG σ sr ln Lc μ) rfl ?_
  rw [if_pos (show (am_hereF (μ 20) A T) = (-1) from h)]
  refine am_g 4 43 [some (.ref 47), some (.int c), some (.int n), some (.int ((am_hereF (μ 20) A T) - c))] [.int 0] (hG σ sr ln Lc (am_us μ 23 1)) rfl ?_
  exact am_ret2 rfl rfl rfl rfl rfl
theorem sp_X12_one_not (d : Nat) {A T : Nat} (hA : μ 22 0 = nI A) (hT : μ 21 0 = nI T) (hA20 : A ≤ 20) (hT20 : T ≤ 20) (c n : Int32) (h0 : μ 23 0 = 0) (h : ¬ (am_hereF (μ 20) A T) = -1) (hin : am_oneF (am_hereF (μ 20) A T) c n = false) : am_X xs LL (d + 2) 159 [.ref 47, .int c, .int n] (hG σ sr ln Lc μ) (some (.int 0)) (hG σ sr ln Lc (am_us μ 23 1)) := by
  refine am_XR (d := d + 1) (C := cd_X12_one) (L := [some (.ref 47), some (.int c), some (.int n), none]) rfl rfl rfl rfl ?_
  refine am_g 3 (if (μ 23 0) = 0 then 9 else 7) [some (.ref 47), some (.int c), some (.int n), none] [] (hG σ sr ln Lc μ) rfl ?_
  rw [if_pos (show (μ 23 0) = 0 from h0)]
  refine am_g 1 10 [some (.ref 47), some (.int c), some (.int n), none] [.ref 47] (hG σ sr ln Lc μ) rfl ?_
  refine am_call (y := 157) (vs := [.ref 47]) (rest := []) (v := (some (.int (am_hereF (μ 20) A T)))) (h1 := (hG σ sr ln Lc μ)) rfl rfl rfl (sp_X12_here (σ := σ) (μ := μ) d hA hT hA20 hT20) ?_
  refine am_g 4 17 [some (.ref 47), some (.int c), some (.int n), some (.int ((am_hereF (μ 20) A T) - c))] [.ref 47] (hG σ sr ln Lc μ) rfl ?_
  refine am_call (y := 157) (vs := [.ref 47]) (rest := []) (v := (some (.int (am_hereF (μ 20) A T)))) (h1 := (hG σ sr ln Lc μ)) rfl rfl rfl (sp_X12_here (σ := σ) (μ := μ) d hA hT hA20 hT20) ?_
  refine am_g 2 (if (am_hereF (μ 20) A T) = (-1) then 37 else 24) [some (.ref 47), some (.int c), some (.int n), some (.int ((am_hereF (μ 20) A T) - c))] [] (hG σ sr ln Lc μ) rfl ?_
  rw [if_neg (show ¬ (am_hereF (μ 20) A T) = (-1) from h)]
  refine am_g 7 31 [some (.ref 47), some (.int c), some (.int n), some (.int ((am_hereF (μ 20) A T) - c))] [.long ((n - 1).toInt64), .long 0, .long (((am_hereF (μ 20) A T) - c).toInt64)] (hG σ sr ln Lc μ) rfl ?_
  refine am_call (y := 140) (vs := [.long (((am_hereF (μ 20) A T) - c).toInt64), .long 0, .long ((n - 1).toInt64)]) (rest := []) (v := (some (.int 0))) (h1 := (hG σ sr ln Lc μ)) rfl rfl rfl (sp_X12_in_b d _ _ _ _ hin) ?_
  refine am_g 5 43 [some (.ref 47), some (.int c), some (.int n), some (.int ((am_hereF (μ 20) A T) - c))] [.int 0] (hG σ sr ln Lc (am_us μ 23 1)) rfl ?_
  exact am_ret2 rfl rfl rfl rfl rfl
end MT
