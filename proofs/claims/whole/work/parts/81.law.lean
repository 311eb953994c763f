/-! the law's loop: one step a call -/
section LW
variable {xs : Nat → Int32} {LL : Nat} {σ σ2 μ μ2 : Nat → Nat → Int32} {sr sr2 : Nat → Nat} {ln ln2 : Nat → Nat → Int32} {Lc Lc2 O T O2 T2 : Nat}
theorem rl_63 (x : Int32) : ∃ c, c < 64 ∧ x &&& 63 = nI c := by
  have hlt : (x &&& 63).toBitVec.toNat < 64 := by
    show (x.toBitVec &&& 63#32).toNat < 64
    rw [BitVec.toNat_and]
    exact Nat.lt_of_le_of_lt Nat.and_le_right (by decide)
  refine ⟨(x &&& 63).toBitVec.toNat, hlt, ?_⟩
  apply Int32.toBitVec_inj.mp
  apply BitVec.eq_of_toNat_eq
  show _ = (BitVec.ofNat 32 (x &&& 63).toBitVec.toNat).toNat
  rw [BitVec.toNat_ofNat, Nat.mod_eq_of_lt (by omega)]
theorem rl_cmp (x : Int64) : lg_cmp x x = 0 := by
  have h1 : ¬ lg_cmp x x < 0 := fun q => am_lcm.mp q (Int64.le_refl x)
  have h2 : ¬ 0 < lg_cmp x x := fun q => am_lcg.mp q (Int64.le_refl x)
  apply Int32.toInt_inj.mp
  rw [Int32.lt_iff_toInt_lt] at h1 h2
  omega
set_option maxRecDepth 20000 in
theorem law_0 {x : Int32} {h' : am_H} (i : Nat) (hi : i + 6 ≤ LL) (hL : LL ≤ 3072) (hv : xs i &&& 63 = 0) (h1 : am_X xs LL 11 88 [.ref 14, .int (xs (i + 1))] (hG σ sr ln Lc μ) (some (.int x)) (hG σ2 sr2 ln2 Lc2 μ)) (h2 : am_X xs LL 11 145 [.ref 47, .int (xs (i + 1))] (hG σ2 sr2 ln2 Lc2 μ) (some (.int x)) (hG σ2 sr2 ln2 Lc2 μ2)) (kk : am_R xs LL cd_L_law (am_X xs LL 11) 1277 [some (.ref 0), some (.ref 14), some (.ref 47), some (.int (nI i))] [] (hG σ2 sr2 ln2 Lc2 μ2) (some (.int 1)) h') : am_R xs LL cd_L_law (am_X xs LL 11) 27 [some (.ref 0), some (.ref 14), some (.ref 47), some (.int (nI i))] [] (hG σ sr ln Lc μ) (some (.int 1)) h' := by
  refine am_g 2 29 [some (.ref 0), some (.ref 14), some (.ref 47), some (.int (nI i))] [.int (nI i), .ref 0] (hG σ sr ln Lc μ) rfl ?_
  refine am_sldR (k := i) rfl (rfl) (by omega) (by omega) ?_
  refine am_g 2 33 [some (.ref 0), some (.ref 14), some (.ref 47), some (.int (nI i))] [.int ((xs i) &&& 63)] (hG σ sr ln Lc μ) rfl ?_
  rw [hv]
  refine am_g 6 189 [some (.ref 0), some (.ref 14), some (.ref 47), some (.int (nI i))] [.int ((nI i) + 1), .ref 0, .ref 14] (hG σ sr ln Lc μ) rfl ?_
  refine am_sldR (k := (i + 1)) rfl (show ((nI i) + (nI 1)) = nI (i + 1) from by first | (simp only [nI_up, nI_mul2, nI_add]; done) | (simp only [nI_up, nI_mul2, nI_add]; exact congrArg nI (by omega))) (by omega) (by omega) ?_
  refine am_call (y := 88) (vs := [.ref 14, .int (xs (i + 1))]) (rest := []) (v := (some (.int x))) (h1 := (hG σ2 sr2 ln2 Lc2 μ)) rfl rfl rfl (h1) ?_
  refine am_g 5 198 [some (.ref 0), some (.ref 14), some (.ref 47), some (.int (nI i))] [.int ((nI i) + 1), .ref 0, .ref 47, .int x] (hG σ2 sr2 ln2 Lc2 μ) rfl ?_
  refine am_sldR (k := (i + 1)) rfl (show ((nI i) + (nI 1)) = nI (i + 1) from by first | (simp only [nI_up, nI_mul2, nI_add]; done) | (simp only [nI_up, nI_mul2, nI_add]; exact congrArg nI (by omega))) (by omega) (by omega) ?_
  refine am_call (y := 145) (vs := [.ref 47, .int (xs (i + 1))]) (rest := [.int x]) (v := (some (.int x))) (h1 := (hG σ2 sr2 ln2 Lc2 μ2)) rfl rfl rfl (h2) ?_
  refine am_g 1 (if x = x then 1277 else 205) [some (.ref 0), some (.ref 14), some (.ref 47), some (.int (nI i))] [] (hG σ2 sr2 ln2 Lc2 μ2) rfl ?_
  rw [if_pos (show x = x from rfl)]
  exact kk
set_option maxRecDepth 20000 in
theorem law_1 {x : Int32} {h' : am_H} (i : Nat) (hi : i + 6 ≤ LL) (hL : LL ≤ 3072) (hv : xs i &&& 63 = 1) (h1 : am_X xs LL 11 89 [.ref 14, .int (xs (i + 1)), .int (xs (i + 2)), .int (xs (i + 3))] (hG σ sr ln Lc μ) (some (.int x)) (hG σ2 sr2 ln2 Lc2 μ)) (h2 : am_X xs LL 11 146 [.ref 47, .int (xs (i + 1)), .int (xs (i + 2)), .int (xs (i + 3))] (hG σ2 sr2 ln2 Lc2 μ) (some (.int x)) (hG σ2 sr2 ln2 Lc2 μ2)) (kk : am_R xs LL cd_L_law (am_X xs LL 11) 1277 [some (.ref 0), some (.ref 14), some (.ref 47), some (.int (nI i))] [] (hG σ2 sr2 ln2 Lc2 μ2) (some (.int 1)) h') : am_R xs LL cd_L_law (am_X xs LL 11) 27 [some (.ref 0), some (.ref 14), some (.ref 47), some (.int (nI i))] [] (hG σ sr ln Lc μ) (some (.int 1)) h' := by
  refine am_g 2 29 [some (.ref 0), some (.ref 14), some (.ref 47), some (.int (nI i))] [.int (nI i), .ref 0] (hG σ sr ln Lc μ) rfl ?_
  refine am_sldR (k := i) rfl (rfl) (by omega) (by omega) ?_
  refine am_g 2 33 [some (.ref 0), some (.ref 14), some (.ref 47), some (.int (nI i))] [.int ((xs i) &&& 63)] (hG σ sr ln Lc μ) rfl ?_
  rw [hv]
  refine am_g 6 212 [some (.ref 0), some (.ref 14), some (.ref 47), some (.int (nI i))] [.int ((nI i) + 1), .ref 0, .ref 14] (hG σ sr ln Lc μ) rfl ?_
  refine am_sldR (k := (i + 1)) rfl (show ((nI i) + (nI 1)) = nI (i + 1) from by first | (simp only [nI_up, nI_mul2, nI_add]; done) | (simp only [nI_up, nI_mul2, nI_add]; exact congrArg nI (by omega))) (by omega) (by omega) ?_
  refine am_g 4 217 [some (.ref 0), some (.ref 14), some (.ref 47), some (.int (nI i))] [.int ((nI i) + 2), .ref 0, .int (xs (i + 1)), .ref 14] (hG σ sr ln Lc μ) rfl ?_
  refine am_sldR (k := (i + 2)) rfl (show ((nI i) + (nI 2)) = nI (i + 2) from by first | (simp only [nI_up, nI_mul2, nI_add]; done) | (simp only [nI_up, nI_mul2, nI_add]; exact congrArg nI (by omega))) (by omega) (by omega) ?_
  refine am_g 4 222 [some (.ref 0), some (.ref 14), some (.ref 47), some (.int (nI i))] [.int ((nI i) + 3), .ref 0, .int (xs (i + 2)), .int (xs (i + 1)), .ref 14] (hG σ sr ln Lc μ) rfl ?_
  refine am_sldR (k := (i + 3)) rfl (show ((nI i) + (nI 3)) = nI (i + 3) from by first | (simp only [nI_up, nI_mul2, nI_add]; done) | (simp only [nI_up, nI_mul2, nI_add]; exact congrArg nI (by omega))) (by omega) (by omega) ?_
  refine am_call (y := 89) (vs := [.ref 14, .int (xs (i + 1)), .int (xs (i + 2)), .int (xs (i + 3))]) (rest := []) (v := (some (.int x))) (h1 := (hG σ2 sr2 ln2 Lc2 μ)) rfl rfl rfl (h1) ?_
  refine am_g 5 231 [some (.ref 0), some (.ref 14), some (.ref 47), some (.int (nI i))] [.int ((nI i) + 1), .ref 0, .ref 47, .int x] (hG σ2 sr2 ln2 Lc2 μ) rfl ?_
  refine am_sldR (k := (i + 1)) rfl (show ((nI i) + (nI 1)) = nI (i + 1) from by first | (simp only [nI_up, nI_mul2, nI_add]; done) | (simp only [nI_up, nI_mul2, nI_add]; exact congrArg nI (by omega))) (by omega) (by omega) ?_
  refine am_g 4 236 [some (.ref 0), some (.ref 14), some (.ref 47), some (.int (nI i))] [.int ((nI i) + 2), .ref 0, .int (xs (i + 1)), .ref 47, .int x] (hG σ2 sr2 ln2 Lc2 μ) rfl ?_
  refine am_sldR (k := (i + 2)) rfl (show ((nI i) + (nI 2)) = nI (i + 2) from by first | (simp only [nI_up, nI_mul2, nI_add]; done) | (simp only [nI_up, nI_mul2, nI_add]; exact congrArg nI (by omega))) (by omega) (by omega) ?_
  refine am_g 4 241 [some (.ref 0), some (.ref 14), some (.ref 47), some (.int (nI i))] [.int ((nI i) + 3), .ref 0, .int (xs (i + 2)), .int (xs (i + 1)), .ref 47, .int x] (hG σ2 sr2 ln2 Lc2 μ) rfl ?_
  refine am_sldR (k := (i + 3)) rfl (show ((nI i) + (nI 3)) = nI (i + 3) from by first | (simp only [nI_up, nI_mul2, nI_add]; done) | (simp only [nI_up, nI_mul2, nI_add]; exact congrArg nI (by omega))) (by omega) (by omega) ?_
  refine am_call (y := 146) (vs := [.ref 47, .int (xs (i + 1)), .int (xs (i + 2)), .int (xs (i + 3))]) (rest := [.int x]) (v := (some (.int x))) (h1 := (hG σ2 sr2 ln2 Lc2 μ2)) rfl rfl rfl (h2) ?_
  refine am_g 1 (if x = x then 1277 else 248) [some (.ref 0), some (.ref 14), some (.ref 47), some (.int (nI i))] [] (hG σ2 sr2 ln2 Lc2 μ2) rfl ?_
  rw [if_pos (show x = x from rfl)]
  exact kk
set_option maxRecDepth 20000 in
theorem law_2 {x : Int32} {h' : am_H} (i : Nat) (hi : i + 6 ≤ LL) (hL : LL ≤ 3072) (hv : xs i &&& 63 = 2) (h1 : am_X xs LL 11 90 [.ref 14, .int (xs (i + 1)), .int (xs (i + 2))] (hG σ sr ln Lc μ) (some (.int x)) (hG σ2 sr2 ln2 Lc2 μ)) (h2 : am_X xs LL 11 148 [.ref 47, .int (xs (i + 1)), .int (xs (i + 2))] (hG σ2 sr2 ln2 Lc2 μ) (some (.int x)) (hG σ2 sr2 ln2 Lc2 μ2)) (kk : am_R xs LL cd_L_law (am_X xs LL 11) 1277 [some (.ref 0), some (.ref 14), some (.ref 47), some (.int (nI i))] [] (hG σ2 sr2 ln2 Lc2 μ2) (some (.int 1)) h') : am_R xs LL cd_L_law (am_X xs LL 11) 27 [some (.ref 0), some (.ref 14), some (.ref 47), some (.int (nI i))] [] (hG σ sr ln Lc μ) (some (.int 1)) h' := by
  refine am_g 2 29 [some (.ref 0), some (.ref 14), some (.ref 47), some (.int (nI i))] [.int (nI i), .ref 0] (hG σ sr ln Lc μ) rfl ?_
  refine am_sldR (k := i) rfl (rfl) (by omega) (by omega) ?_
  refine am_g 2 33 [some (.ref 0), some (.ref 14), some (.ref 47), some (.int (nI i))] [.int ((xs i) &&& 63)] (hG σ sr ln Lc μ) rfl ?_
  rw [hv]
  refine am_g 6 255 [some (.ref 0), some (.ref 14), some (.ref 47), some (.int (nI i))] [.int ((nI i) + 1), .ref 0, .ref 14] (hG σ sr ln Lc μ) rfl ?_
  refine am_sldR (k := (i + 1)) rfl (show ((nI i) + (nI 1)) = nI (i + 1) from by first | (simp only [nI_up, nI_mul2, nI_add]; done) | (simp only [nI_up, nI_mul2, nI_add]; exact congrArg nI (by omega))) (by omega) (by omega) ?_
  refine am_g 4 260 [some (.ref 0), some (.ref 14), some (.ref 47), some (.int (nI i))] [.int ((nI i) + 2), .ref 0, .int (xs (i + 1)), .ref 14] (hG σ sr ln Lc μ) rfl ?_
  refine am_sldR (k := (i + 2)) rfl (show ((nI i) + (nI 2)) = nI (i + 2) from by first | (simp only [nI_up, nI_mul2, nI_add]; done) | (simp only [nI_up, nI_mul2, nI_add]; exact congrArg nI (by omega))) (by omega) (by omega) ?_
  refine am_call (y := 90) (vs := [.ref 14, .int (xs (i + 1)), .int (xs (i + 2))]) (rest := []) (v := (some (.int x))) (h1 := (hG σ2 sr2 ln2 Lc2 μ)) rfl rfl rfl (h1) ?_
  refine am_g 5 269 [some (.ref 0), some (.ref 14), some (.ref 47), some (.int (nI i))] [.int ((nI i) + 1), .ref 0, .ref 47, .int x] (hG σ2 sr2 ln2 Lc2 μ) rfl ?_
  refine am_sldR (k := (i + 1)) rfl (show ((nI i) + (nI 1)) = nI (i + 1) from by first | (simp only [nI_up, nI_mul2, nI_add]; done) | (simp only [nI_up, nI_mul2, nI_add]; exact congrArg nI (by omega))) (by omega) (by omega) ?_
  refine am_g 4 274 [some (.ref 0), some (.ref 14), some (.ref 47), some (.int (nI i))] [.int ((nI i) + 2), .ref 0, .int (xs (i + 1)), .ref 47, .int x] (hG σ2 sr2 ln2 Lc2 μ) rfl ?_
  refine am_sldR (k := (i + 2)) rfl (show ((nI i) + (nI 2)) = nI (i + 2) from by first | (simp only [nI_up, nI_mul2, nI_add]; done) | (simp only [nI_up, nI_mul2, nI_add]; exact congrArg nI (by omega))) (by omega) (by omega) ?_
  refine am_call (y := 148) (vs := [.ref 47, .int (xs (i + 1)), .int (xs (i + 2))]) (rest := [.int x]) (v := (some (.int x))) (h1 := (hG σ2 sr2 ln2 Lc2 μ2)) rfl rfl rfl (h2) ?_
  refine am_g 1 (if x = x then 1277 else 281) [some (.ref 0), some (.ref 14), some (.ref 47), some (.int (nI i))] [] (hG σ2 sr2 ln2 Lc2 μ2) rfl ?_
  rw [if_pos (show x = x from rfl)]
  exact kk
set_option maxRecDepth 20000 in
theorem law_3 {x : Int32} {h' : am_H} (i : Nat) (hi : i + 6 ≤ LL) (hL : LL ≤ 3072) (hv : xs i &&& 63 = 3) (h1 : am_X xs LL 11 91 [.ref 14, .int (xs (i + 1)), .int (xs (i + 2)), .int (xs (i + 3)), .int (xs (i + 4))] (hG σ sr ln Lc μ) (some (.int x)) (hG σ2 sr2 ln2 Lc2 μ)) (h2 : am_X xs LL 11 149 [.ref 47, .int (xs (i + 1)), .int (xs (i + 2)), .int (xs (i + 3)), .int (xs (i + 4))] (hG σ2 sr2 ln2 Lc2 μ) (some (.int x)) (hG σ2 sr2 ln2 Lc2 μ2)) (kk : am_R xs LL cd_L_law (am_X xs LL 11) 1277 [some (.ref 0), some (.ref 14), some (.ref 47), some (.int (nI i))] [] (hG σ2 sr2 ln2 Lc2 μ2) (some (.int 1)) h') : am_R xs LL cd_L_law (am_X xs LL 11) 27 [some (.ref 0), some (.ref 14), some (.ref 47), some (.int (nI i))] [] (hG σ sr ln Lc μ) (some (.int 1)) h' := by
  refine am_g 2 29 [some (.ref 0), some (.ref 14), some (.ref 47), some (.int (nI i))] [.int (nI i), .ref 0] (hG σ sr ln Lc μ) rfl ?_
  refine am_sldR (k := i) rfl (rfl) (by omega) (by omega) ?_
  refine am_g 2 33 [some (.ref 0), some (.ref 14), some (.ref 47), some (.int (nI i))] [.int ((xs i) &&& 63)] (hG σ sr ln Lc μ) rfl ?_
  rw [hv]
  refine am_g 6 288 [some (.ref 0), some (.ref 14), some (.ref 47), some (.int (nI i))] [.int ((nI i) + 1), .ref 0, .ref 14] (hG σ sr ln Lc μ) rfl ?_
  refine am_sldR (k := (i + 1)) rfl (show ((nI i) + (nI 1)) = nI (i + 1) from by first | (simp only [nI_up, nI_mul2, nI_add]; done) | (simp only [nI_up, nI_mul2, nI_add]; exact congrArg nI (by omega))) (by omega) (by omega) ?_
  refine am_g 4 293 [some (.ref 0), some (.ref 14), some (.ref 47), some (.int (nI i))] [.int ((nI i) + 2), .ref 0, .int (xs (i + 1)), .ref 14] (hG σ sr ln Lc μ) rfl ?_
  refine am_sldR (k := (i + 2)) rfl (show ((nI i) + (nI 2)) = nI (i + 2) from by first | (simp only [nI_up, nI_mul2, nI_add]; done) | (simp only [nI_up, nI_mul2, nI_add]; exact congrArg nI (by omega))) (by omega) (by omega) ?_
  refine am_g 4 298 [some (.ref 0), some (.ref 14), some (.ref 47), some (.int (nI i))] [.int ((nI i) + 3), .ref 0, .int (xs (i + 2)), .int (xs (i + 1)), .ref 14] (hG σ sr ln Lc μ) rfl ?_
  refine am_sldR (k := (i + 3)) rfl (show ((nI i) + (nI 3)) = nI (i + 3) from by first | (simp only [nI_up, nI_mul2, nI_add]; done) | (simp only [nI_up, nI_mul2, nI_add]; exact congrArg nI (by omega))) (by omega) (by omega) ?_
  refine am_g 4 303 [some (.ref 0), some (.ref 14), some (.ref 47), some (.int (nI i))] [.int ((nI i) + 4), .ref 0, .int (xs (i + 3)), .int (xs (i + 2)), .int (xs (i + 1)), .ref 14] (hG σ sr ln Lc μ) rfl ?_
  refine am_sldR (k := (i + 4)) rfl (show ((nI i) + (nI 4)) = nI (i + 4) from by first | (simp only [nI_up, nI_mul2, nI_add]; done) | (simp only [nI_up, nI_mul2, nI_add]; exact congrArg nI (by omega))) (by omega) (by omega) ?_
  refine am_call (y := 91) (vs := [.ref 14, .int (xs (i + 1)), .int (xs (i + 2)), .int (xs (i + 3)), .int (xs (i + 4))]) (rest := []) (v := (some (.int x))) (h1 := (hG σ2 sr2 ln2 Lc2 μ)) rfl rfl rfl (h1) ?_
  refine am_g 5 312 [some (.ref 0), some (.ref 14), some (.ref 47), some (.int (nI i))] [.int ((nI i) + 1), .ref 0, .ref 47, .int x] (hG σ2 sr2 ln2 Lc2 μ) rfl ?_
  refine am_sldR (k := (i + 1)) rfl (show ((nI i) + (nI 1)) = nI (i + 1) from by first | (simp only [nI_up, nI_mul2, nI_add]; done) | (simp only [nI_up, nI_mul2, nI_add]; exact congrArg nI (by omega))) (by omega) (by omega) ?_
  refine am_g 4 317 [some (.ref 0), some (.ref 14), some (.ref 47), some (.int (nI i))] [.int ((nI i) + 2), .ref 0, .int (xs (i + 1)), .ref 47, .int x] (hG σ2 sr2 ln2 Lc2 μ) rfl ?_
  refine am_sldR (k := (i + 2)) rfl (show ((nI i) + (nI 2)) = nI (i + 2) from by first | (simp only [nI_up, nI_mul2, nI_add]; done) | (simp only [nI_up, nI_mul2, nI_add]; exact congrArg nI (by omega))) (by omega) (by omega) ?_
  refine am_g 4 322 [some (.ref 0), some (.ref 14), some (.ref 47), some (.int (nI i))] [.int ((nI i) + 3), .ref 0, .int (xs (i + 2)), .int (xs (i + 1)), .ref 47, .int x] (hG σ2 sr2 ln2 Lc2 μ) rfl ?_
  refine am_sldR (k := (i + 3)) rfl (show ((nI i) + (nI 3)) = nI (i + 3) from by first | (simp only [nI_up, nI_mul2, nI_add]; done) | (simp only [nI_up, nI_mul2, nI_add]; exact congrArg nI (by omega))) (by omega) (by omega) ?_
  refine am_g 4 327 [some (.ref 0), some (.ref 14), some (.ref 47), some (.int (nI i))] [.int ((nI i) + 4), .ref 0, .int (xs (i + 3)), .int (xs (i + 2)), .int (xs (i + 1)), .ref 47, .int x] (hG σ2 sr2 ln2 Lc2 μ) rfl ?_
  refine am_sldR (k := (i + 4)) rfl (show ((nI i) + (nI 4)) = nI (i + 4) from by first | (simp only [nI_up, nI_mul2, nI_add]; done) | (simp only [nI_up, nI_mul2, nI_add]; exact congrArg nI (by omega))) (by omega) (by omega) ?_
  refine am_call (y := 149) (vs := [.ref 47, .int (xs (i + 1)), .int (xs (i + 2)), .int (xs (i + 3)), .int (xs (i + 4))]) (rest := [.int x]) (v := (some (.int x))) (h1 := (hG σ2 sr2 ln2 Lc2 μ2)) rfl rfl rfl (h2) ?_
  refine am_g 1 (if x = x then 1277 else 334) [some (.ref 0), some (.ref 14), some (.ref 47), some (.int (nI i))] [] (hG σ2 sr2 ln2 Lc2 μ2) rfl ?_
  rw [if_pos (show x = x from rfl)]
  exact kk
set_option maxRecDepth 20000 in
theorem law_4 {x : Int32} {h' : am_H} (i : Nat) (hi : i + 6 ≤ LL) (hL : LL ≤ 3072) (hv : xs i &&& 63 = 4) (h1 : am_X xs LL 11 92 [.ref 14, .int (xs (i + 1)), .int (xs (i + 2))] (hG σ sr ln Lc μ) (some (.int x)) (hG σ2 sr2 ln2 Lc2 μ)) (h2 : am_X xs LL 11 151 [.ref 47, .int (xs (i + 1)), .int (xs (i + 2))] (hG σ2 sr2 ln2 Lc2 μ) (some (.int x)) (hG σ2 sr2 ln2 Lc2 μ2)) (kk : am_R xs LL cd_L_law (am_X xs LL 11) 1277 [some (.ref 0), some (.ref 14), some (.ref 47), some (.int (nI i))] [] (hG σ2 sr2 ln2 Lc2 μ2) (some (.int 1)) h') : am_R xs LL cd_L_law (am_X xs LL 11) 27 [some (.ref 0), some (.ref 14), some (.ref 47), some (.int (nI i))] [] (hG σ sr ln Lc μ) (some (.int 1)) h' := by
  refine am_g 2 29 [some (.ref 0), some (.ref 14), some (.ref 47), some (.int (nI i))] [.int (nI i), .ref 0] (hG σ sr ln Lc μ) rfl ?_
  refine am_sldR (k := i) rfl (rfl) (by omega) (by omega) ?_
  refine am_g 2 33 [some (.ref 0), some (.ref 14), some (.ref 47), some (.int (nI i))] [.int ((xs i) &&& 63)] (hG σ sr ln Lc μ) rfl ?_
  rw [hv]
  refine am_g 6 341 [some (.ref 0), some (.ref 14), some (.ref 47), some (.int (nI i))] [.int ((nI i) + 1), .ref 0, .ref 14] (hG σ sr ln Lc μ) rfl ?_
  refine am_sldR (k := (i + 1)) rfl (show ((nI i) + (nI 1)) = nI (i + 1) from by first | (simp only [nI_up, nI_mul2, nI_add]; done) | (simp only [nI_up, nI_mul2, nI_add]; exact congrArg nI (by omega))) (by omega) (by omega) ?_
  refine am_g 4 346 [some (.ref 0), some (.ref 14), some (.ref 47), some (.int (nI i))] [.int ((nI i) + 2), .ref 0, .int (xs (i + 1)), .ref 14] (hG σ sr ln Lc μ) rfl ?_
  refine am_sldR (k := (i + 2)) rfl (show ((nI i) + (nI 2)) = nI (i + 2) from by first | (simp only [nI_up, nI_mul2, nI_add]; done) | (simp only [nI_up, nI_mul2, nI_add]; exact congrArg nI (by omega))) (by omega) (by omega) ?_
  refine am_call (y := 92) (vs := [.ref 14, .int (xs (i + 1)), .int (xs (i + 2))]) (rest := []) (v := (some (.int x))) (h1 := (hG σ2 sr2 ln2 Lc2 μ)) rfl rfl rfl (h1) ?_
  refine am_g 5 355 [some (.ref 0), some (.ref 14), some (.ref 47), some (.int (nI i))] [.int ((nI i) + 1), .ref 0, .ref 47, .int x] (hG σ2 sr2 ln2 Lc2 μ) rfl ?_
  refine am_sldR (k := (i + 1)) rfl (show ((nI i) + (nI 1)) = nI (i + 1) from by first | (simp only [nI_up, nI_mul2, nI_add]; done) | (simp only [nI_up, nI_mul2, nI_add]; exact congrArg nI (by omega))) (by omega) (by omega) ?_
  refine am_g 4 360 [some (.ref 0), some (.ref 14), some (.ref 47), some (.int (nI i))] [.int ((nI i) + 2), .ref 0, .int (xs (i + 1)), .ref 47, .int x] (hG σ2 sr2 ln2 Lc2 μ) rfl ?_
  refine am_sldR (k := (i + 2)) rfl (show ((nI i) + (nI 2)) = nI (i + 2) from by first | (simp only [nI_up, nI_mul2, nI_add]; done) | (simp only [nI_up, nI_mul2, nI_add]; exact congrArg nI (by omega))) (by omega) (by omega) ?_
  refine am_call (y := 151) (vs := [.ref 47, .int (xs (i + 1)), .int (xs (i + 2))]) (rest := [.int x]) (v := (some (.int x))) (h1 := (hG σ2 sr2 ln2 Lc2 μ2)) rfl rfl rfl (h2) ?_
  refine am_g 1 (if x = x then 1277 else 367) [some (.ref 0), some (.ref 14), some (.ref 47), some (.int (nI i))] [] (hG σ2 sr2 ln2 Lc2 μ2) rfl ?_
  rw [if_pos (show x = x from rfl)]
  exact kk
set_option maxRecDepth 20000 in
theorem law_5 {x : Int32} {h' : am_H} (i : Nat) (hi : i + 6 ≤ LL) (hL : LL ≤ 3072) (hv : xs i &&& 63 = 5) (h1 : am_X xs LL 11 93 [.ref 14, .int (xs (i + 1)), .long ((((xs (i + 2)).toInt64) <<< ((32 : Int32).toInt64 &&& 63)) ||| (((xs (i + 3)).toInt64) &&& 4294967295))] (hG σ sr ln Lc μ) (some (.int x)) (hG σ2 sr2 ln2 Lc2 μ)) (h2 : am_X xs LL 11 156 [.ref 47, .int (xs (i + 1)), .long ((((xs (i + 2)).toInt64) <<< ((32 : Int32).toInt64 &&& 63)) ||| (((xs (i + 3)).toInt64) &&& 4294967295))] (hG σ2 sr2 ln2 Lc2 μ) (some (.int x)) (hG σ2 sr2 ln2 Lc2 μ2)) (kk : am_R xs LL cd_L_law (am_X xs LL 11) 1277 [some (.ref 0), some (.ref 14), some (.ref 47), some (.int (nI i))] [] (hG σ2 sr2 ln2 Lc2 μ2) (some (.int 1)) h') : am_R xs LL cd_L_law (am_X xs LL 11) 27 [some (.ref 0), some (.ref 14), some (.ref 47), some (.int (nI i))] [] (hG σ sr ln Lc μ) (some (.int 1)) h' := by
  refine am_g 2 29 [some (.ref 0), some (.ref 14), some (.ref 47), some (.int (nI i))] [.int (nI i), .ref 0] (hG σ sr ln Lc μ) rfl ?_
  refine am_sldR (k := i) rfl (rfl) (by omega) (by omega) ?_
  refine am_g 2 33 [some (.ref 0), some (.ref 14), some (.ref 47), some (.int (nI i))] [.int ((xs i) &&& 63)] (hG σ sr ln Lc μ) rfl ?_
  rw [hv]
  refine am_g 6 374 [some (.ref 0), some (.ref 14), some (.ref 47), some (.int (nI i))] [.int ((nI i) + 1), .ref 0, .ref 14] (hG σ sr ln Lc μ) rfl ?_
  refine am_sldR (k := (i + 1)) rfl (show ((nI i) + (nI 1)) = nI (i + 1) from by first | (simp only [nI_up, nI_mul2, nI_add]; done) | (simp only [nI_up, nI_mul2, nI_add]; exact congrArg nI (by omega))) (by omega) (by omega) ?_
  refine am_g 4 379 [some (.ref 0), some (.ref 14), some (.ref 47), some (.int (nI i))] [.int ((nI i) + 2), .ref 0, .int (xs (i + 1)), .ref 14] (hG σ sr ln Lc μ) rfl ?_
  refine am_sldR (k := (i + 2)) rfl (show ((nI i) + (nI 2)) = nI (i + 2) from by first | (simp only [nI_up, nI_mul2, nI_add]; done) | (simp only [nI_up, nI_mul2, nI_add]; exact congrArg nI (by omega))) (by omega) (by omega) ?_
  refine am_g 7 388 [some (.ref 0), some (.ref 14), some (.ref 47), some (.int (nI i))] [.int ((nI i) + 3), .ref 0, .long (((xs (i + 2)).toInt64) <<< ((32 : Int32).toInt64 &&& 63)), .int (xs (i + 1)), .ref 14] (hG σ sr ln Lc μ) rfl ?_
  refine am_sldR (k := (i + 3)) rfl (show ((nI i) + (nI 3)) = nI (i + 3) from by first | (simp only [nI_up, nI_mul2, nI_add]; done) | (simp only [nI_up, nI_mul2, nI_add]; exact congrArg nI (by omega))) (by omega) (by omega) ?_
  refine am_g 4 395 [some (.ref 0), some (.ref 14), some (.ref 47), some (.int (nI i))] [.long ((((xs (i + 2)).toInt64) <<< ((32 : Int32).toInt64 &&& 63)) ||| (((xs (i + 3)).toInt64) &&& 4294967295)), .int (xs (i + 1)), .ref 14] (hG σ sr ln Lc μ) rfl ?_
  refine am_call (y := 93) (vs := [.ref 14, .int (xs (i + 1)), .long ((((xs (i + 2)).toInt64) <<< ((32 : Int32).toInt64 &&& 63)) ||| (((xs (i + 3)).toInt64) &&& 4294967295))]) (rest := []) (v := (some (.int x))) (h1 := (hG σ2 sr2 ln2 Lc2 μ)) rfl rfl rfl (h1) ?_
  refine am_g 5 403 [some (.ref 0), some (.ref 14), some (.ref 47), some (.int (nI i))] [.int ((nI i) + 1), .ref 0, .ref 47, .int x] (hG σ2 sr2 ln2 Lc2 μ) rfl ?_
  refine am_sldR (k := (i + 1)) rfl (show ((nI i) + (nI 1)) = nI (i + 1) from by first | (simp only [nI_up, nI_mul2, nI_add]; done) | (simp only [nI_up, nI_mul2, nI_add]; exact congrArg nI (by omega))) (by omega) (by omega) ?_
  refine am_g 4 408 [some (.ref 0), some (.ref 14), some (.ref 47), some (.int (nI i))] [.int ((nI i) + 2), .ref 0, .int (xs (i + 1)), .ref 47, .int x] (hG σ2 sr2 ln2 Lc2 μ) rfl ?_
  refine am_sldR (k := (i + 2)) rfl (show ((nI i) + (nI 2)) = nI (i + 2) from by first | (simp only [nI_up, nI_mul2, nI_add]; done) | (simp only [nI_up, nI_mul2, nI_add]; exact congrArg nI (by omega))) (by omega) (by omega) ?_
  refine am_g 7 417 [some (.ref 0), some (.ref 14), some (.ref 47), some (.int (nI i))] [.int ((nI i) + 3), .ref 0, .long (((xs (i + 2)).toInt64) <<< ((32 : Int32).toInt64 &&& 63)), .int (xs (i + 1)), .ref 47, .int x] (hG σ2 sr2 ln2 Lc2 μ) rfl ?_
  refine am_sldR (k := (i + 3)) rfl (show ((nI i) + (nI 3)) = nI (i + 3) from by first | (simp only [nI_up, nI_mul2, nI_add]; done) | (simp only [nI_up, nI_mul2, nI_add]; exact congrArg nI (by omega))) (by omega) (by omega) ?_
  refine am_g 4 424 [some (.ref 0), some (.ref 14), some (.ref 47), some (.int (nI i))] [.long ((((xs (i + 2)).toInt64) <<< ((32 : Int32).toInt64 &&& 63)) ||| (((xs (i + 3)).toInt64) &&& 4294967295)), .int (xs (i + 1)), .ref 47, .int x] (hG σ2 sr2 ln2 Lc2 μ) rfl ?_
  refine am_call (y := 156) (vs := [.ref 47, .int (xs (i + 1)), .long ((((xs (i + 2)).toInt64) <<< ((32 : Int32).toInt64 &&& 63)) ||| (((xs (i + 3)).toInt64) &&& 4294967295))]) (rest := [.int x]) (v := (some (.int x))) (h1 := (hG σ2 sr2 ln2 Lc2 μ2)) rfl rfl rfl (h2) ?_
  refine am_g 1 (if x = x then 1277 else 430) [some (.ref 0), some (.ref 14), some (.ref 47), some (.int (nI i))] [] (hG σ2 sr2 ln2 Lc2 μ2) rfl ?_
  rw [if_pos (show x = x from rfl)]
  exact kk
set_option maxRecDepth 20000 in
theorem law_6 {x : Int32} {h' : am_H} (i : Nat) (hi : i + 6 ≤ LL) (hL : LL ≤ 3072) (hv : xs i &&& 63 = 6) (h1 : am_X xs LL 11 94 [.ref 14, .int (xs (i + 1)), .int (xs (i + 2))] (hG σ sr ln Lc μ) (some (.int x)) (hG σ2 sr2 ln2 Lc2 μ)) (h2 : am_X xs LL 11 162 [.ref 47, .int (xs (i + 1)), .int (xs (i + 2))] (hG σ2 sr2 ln2 Lc2 μ) (some (.int x)) (hG σ2 sr2 ln2 Lc2 μ2)) (kk : am_R xs LL cd_L_law (am_X xs LL 11) 1277 [some (.ref 0), some (.ref 14), some (.ref 47), some (.int (nI i))] [] (hG σ2 sr2 ln2 Lc2 μ2) (some (.int 1)) h') : am_R xs LL cd_L_law (am_X xs LL 11) 27 [some (.ref 0), some (.ref 14), some (.ref 47), some (.int (nI i))] [] (hG σ sr ln Lc μ) (some (.int 1)) h' := by
  refine am_g 2 29 [some (.ref 0), some (.ref 14), some (.ref 47), some (.int (nI i))] [.int (nI i), .ref 0] (hG σ sr ln Lc μ) rfl ?_
  refine am_sldR (k := i) rfl (rfl) (by omega) (by omega) ?_
  refine am_g 2 33 [some (.ref 0), some (.ref 14), some (.ref 47), some (.int (nI i))] [.int ((xs i) &&& 63)] (hG σ sr ln Lc μ) rfl ?_
  rw [hv]
  refine am_g 6 437 [some (.ref 0), some (.ref 14), some (.ref 47), some (.int (nI i))] [.int ((nI i) + 1), .ref 0, .ref 14] (hG σ sr ln Lc μ) rfl ?_
  refine am_sldR (k := (i + 1)) rfl (show ((nI i) + (nI 1)) = nI (i + 1) from by first | (simp only [nI_up, nI_mul2, nI_add]; done) | (simp only [nI_up, nI_mul2, nI_add]; exact congrArg nI (by omega))) (by omega) (by omega) ?_
  refine am_g 4 442 [some (.ref 0), some (.ref 14), some (.ref 47), some (.int (nI i))] [.int ((nI i) + 2), .ref 0, .int (xs (i + 1)), .ref 14] (hG σ sr ln Lc μ) rfl ?_
  refine am_sldR (k := (i + 2)) rfl (show ((nI i) + (nI 2)) = nI (i + 2) from by first | (simp only [nI_up, nI_mul2, nI_add]; done) | (simp only [nI_up, nI_mul2, nI_add]; exact congrArg nI (by omega))) (by omega) (by omega) ?_
  refine am_call (y := 94) (vs := [.ref 14, .int (xs (i + 1)), .int (xs (i + 2))]) (rest := []) (v := (some (.int x))) (h1 := (hG σ2 sr2 ln2 Lc2 μ)) rfl rfl rfl (h1) ?_
  refine am_g 5 451 [some (.ref 0), some (.ref 14), some (.ref 47), some (.int (nI i))] [.int ((nI i) + 1), .ref 0, .ref 47, .int x] (hG σ2 sr2 ln2 Lc2 μ) rfl ?_
  refine am_sldR (k := (i + 1)) rfl (show ((nI i) + (nI 1)) = nI (i + 1) from by first | (simp only [nI_up, nI_mul2, nI_add]; done) | (simp only [nI_up, nI_mul2, nI_add]; exact congrArg nI (by omega))) (by omega) (by omega) ?_
  refine am_g 4 456 [some (.ref 0), some (.ref 14), some (.ref 47), some (.int (nI i))] [.int ((nI i) + 2), .ref 0, .int (xs (i + 1)), .ref 47, .int x] (hG σ2 sr2 ln2 Lc2 μ) rfl ?_
  refine am_sldR (k := (i + 2)) rfl (show ((nI i) + (nI 2)) = nI (i + 2) from by first | (simp only [nI_up, nI_mul2, nI_add]; done) | (simp only [nI_up, nI_mul2, nI_add]; exact congrArg nI (by omega))) (by omega) (by omega) ?_
  refine am_call (y := 162) (vs := [.ref 47, .int (xs (i + 1)), .int (xs (i + 2))]) (rest := [.int x]) (v := (some (.int x))) (h1 := (hG σ2 sr2 ln2 Lc2 μ2)) rfl rfl rfl (h2) ?_
  refine am_g 1 (if x = x then 1277 else 463) [some (.ref 0), some (.ref 14), some (.ref 47), some (.int (nI i))] [] (hG σ2 sr2 ln2 Lc2 μ2) rfl ?_
  rw [if_pos (show x = x from rfl)]
  exact kk
set_option maxRecDepth 20000 in
theorem law_7 {x : Int32} {h' : am_H} (i : Nat) (hi : i + 6 ≤ LL) (hL : LL ≤ 3072) (hv : xs i &&& 63 = 7) (h1 : am_X xs LL 11 95 [.ref 14, .int (xs (i + 1)), .int (xs (i + 2))] (hG σ sr ln Lc μ) (some (.int x)) (hG σ2 sr2 ln2 Lc2 μ)) (h2 : am_X xs LL 11 163 [.ref 47, .int (xs (i + 1)), .int (xs (i + 2))] (hG σ2 sr2 ln2 Lc2 μ) (some (.int x)) (hG σ2 sr2 ln2 Lc2 μ2)) (kk : am_R xs LL cd_L_law (am_X xs LL 11) 1277 [some (.ref 0), some (.ref 14), some (.ref 47), some (.int (nI i))] [] (hG σ2 sr2 ln2 Lc2 μ2) (some (.int 1)) h') : am_R xs LL cd_L_law (am_X xs LL 11) 27 [some (.ref 0), some (.ref 14), some (.ref 47), some (.int (nI i))] [] (hG σ sr ln Lc μ) (some (.int 1)) h' := by
  refine am_g 2 29 [some (.ref 0), some (.ref 14), some (.ref 47), some (.int (nI i))] [.int (nI i), .ref 0] (hG σ sr ln Lc μ) rfl ?_
  refine am_sldR (k := i) rfl (rfl) (by omega) (by omega) ?_
  refine am_g 2 33 [some (.ref 0), some (.ref 14), some (.ref 47), some (.int (nI i))] [.int ((xs i) &&& 63)] (hG σ sr ln Lc μ) rfl ?_
  rw [hv]
  refine am_g 6 470 [some (.ref 0), some (.ref 14), some (.ref 47), some (.int (nI i))] [.int ((nI i) + 1), .ref 0, .ref 14] (hG σ sr ln Lc μ) rfl ?_
  refine am_sldR (k := (i + 1)) rfl (show ((nI i) + (nI 1)) = nI (i + 1) from by first | (simp only [nI_up, nI_mul2, nI_add]; done) | (simp only [nI_up, nI_mul2, nI_add]; exact congrArg nI (by omega))) (by omega) (by omega) ?_
  refine am_g 4 475 [some (.ref 0), some (.ref 14), some (.ref 47), some (.int (nI i))] [.int ((nI i) + 2), .ref 0, .int (xs (i + 1)), .ref 14] (hG σ sr ln Lc μ) rfl ?_
  refine am_sldR (k := (i + 2)) rfl (show ((nI i) + (nI 2)) = nI (i + 2) from by first | (simp only [nI_up, nI_mul2, nI_add]; done) | (simp only [nI_up, nI_mul2, nI_add]; exact congrArg nI (by omega))) (by omega) (by omega) ?_
  refine am_call (y := 95) (vs := [.ref 14, .int (xs (i + 1)), .int (xs (i + 2))]) (rest := []) (v := (some (.int x))) (h1 := (hG σ2 sr2 ln2 Lc2 μ)) rfl rfl rfl (h1) ?_
  refine am_g 5 484 [some (.ref 0), some (.ref 14), some (.ref 47), some (.int (nI i))] [.int ((nI i) + 1), .ref 0, .ref 47, .int x] (hG σ2 sr2 ln2 Lc2 μ) rfl ?_
  refine am_sldR (k := (i + 1)) rfl (show ((nI i) + (nI 1)) = nI (i + 1) from by first | (simp only [nI_up, nI_mul2, nI_add]; done) | (simp only [nI_up, nI_mul2, nI_add]; exact congrArg nI (by omega))) (by omega) (by omega) ?_
  refine am_g 4 489 [some (.ref 0), some (.ref 14), some (.ref 47), some (.int (nI i))] [.int ((nI i) + 2), .ref 0, .int (xs (i + 1)), .ref 47, .int x] (hG σ2 sr2 ln2 Lc2 μ) rfl ?_
  refine am_sldR (k := (i + 2)) rfl (show ((nI i) + (nI 2)) = nI (i + 2) from by first | (simp only [nI_up, nI_mul2, nI_add]; done) | (simp only [nI_up, nI_mul2, nI_add]; exact congrArg nI (by omega))) (by omega) (by omega) ?_
  refine am_call (y := 163) (vs := [.ref 47, .int (xs (i + 1)), .int (xs (i + 2))]) (rest := [.int x]) (v := (some (.int x))) (h1 := (hG σ2 sr2 ln2 Lc2 μ2)) rfl rfl rfl (h2) ?_
  refine am_g 1 (if x = x then 1277 else 496) [some (.ref 0), some (.ref 14), some (.ref 47), some (.int (nI i))] [] (hG σ2 sr2 ln2 Lc2 μ2) rfl ?_
  rw [if_pos (show x = x from rfl)]
  exact kk
set_option maxRecDepth 20000 in
theorem law_8 {x : Int32} {h' : am_H} (i : Nat) (hi : i + 6 ≤ LL) (hL : LL ≤ 3072) (hv : xs i &&& 63 = 8) (h1 : am_X xs LL 11 96 [.ref 14, .int (xs (i + 1)), .int (xs (i + 2))] (hG σ sr ln Lc μ) (some (.int x)) (hG σ2 sr2 ln2 Lc2 μ)) (h2 : am_X xs LL 11 164 [.ref 47, .int (xs (i + 1)), .int (xs (i + 2))] (hG σ2 sr2 ln2 Lc2 μ) (some (.int x)) (hG σ2 sr2 ln2 Lc2 μ2)) (kk : am_R xs LL cd_L_law (am_X xs LL 11) 1277 [some (.ref 0), some (.ref 14), some (.ref 47), some (.int (nI i))] [] (hG σ2 sr2 ln2 Lc2 μ2) (some (.int 1)) h') : am_R xs LL cd_L_law (am_X xs LL 11) 27 [some (.ref 0), some (.ref 14), some (.ref 47), some (.int (nI i))] [] (hG σ sr ln Lc μ) (some (.int 1)) h' := by
  refine am_g 2 29 [some (.ref 0), some (.ref 14), some (.ref 47), some (.int (nI i))] [.int (nI i), .ref 0] (hG σ sr ln Lc μ) rfl ?_
  refine am_sldR (k := i) rfl (rfl) (by omega) (by omega) ?_
  refine am_g 2 33 [some (.ref 0), some (.ref 14), some (.ref 47), some (.int (nI i))] [.int ((xs i) &&& 63)] (hG σ sr ln Lc μ) rfl ?_
  rw [hv]
  refine am_g 6 503 [some (.ref 0), some (.ref 14), some (.ref 47), some (.int (nI i))] [.int ((nI i) + 1), .ref 0, .ref 14] (hG σ sr ln Lc μ) rfl ?_
  refine am_sldR (k := (i + 1)) rfl (show ((nI i) + (nI 1)) = nI (i + 1) from by first | (simp only [nI_up, nI_mul2, nI_add]; done) | (simp only [nI_up, nI_mul2, nI_add]; exact congrArg nI (by omega))) (by omega) (by omega) ?_
  refine am_g 4 508 [some (.ref 0), some (.ref 14), some (.ref 47), some (.int (nI i))] [.int ((nI i) + 2), .ref 0, .int (xs (i + 1)), .ref 14] (hG σ sr ln Lc μ) rfl ?_
  refine am_sldR (k := (i + 2)) rfl (show ((nI i) + (nI 2)) = nI (i + 2) from by first | (simp only [nI_up, nI_mul2, nI_add]; done) | (simp only [nI_up, nI_mul2, nI_add]; exact congrArg nI (by omega))) (by omega) (by omega) ?_
  refine am_call (y := 96) (vs := [.ref 14, .int (xs (i + 1)), .int (xs (i + 2))]) (rest := []) (v := (some (.int x))) (h1 := (hG σ2 sr2 ln2 Lc2 μ)) rfl rfl rfl (h1) ?_
  refine am_g 5 517 [some (.ref 0), some (.ref 14), some (.ref 47), some (.int (nI i))] [.int ((nI i) + 1), .ref 0, .ref 47, .int x] (hG σ2 sr2 ln2 Lc2 μ) rfl ?_
  refine am_sldR (k := (i + 1)) rfl (show ((nI i) + (nI 1)) = nI (i + 1) from by first | (simp only [nI_up, nI_mul2, nI_add]; done) | (simp only [nI_up, nI_mul2, nI_add]; exact congrArg nI (by omega))) (by omega) (by omega) ?_
  refine am_g 4 522 [some (.ref 0), some (.ref 14), some (.ref 47), some (.int (nI i))] [.int ((nI i) + 2), .ref 0, .int (xs (i + 1)), .ref 47, .int x] (hG σ2 sr2 ln2 Lc2 μ) rfl ?_
  refine am_sldR (k := (i + 2)) rfl (show ((nI i) + (nI 2)) = nI (i + 2) from by first | (simp only [nI_up, nI_mul2, nI_add]; done) | (simp only [nI_up, nI_mul2, nI_add]; exact congrArg nI (by omega))) (by omega) (by omega) ?_
  refine am_call (y := 164) (vs := [.ref 47, .int (xs (i + 1)), .int (xs (i + 2))]) (rest := [.int x]) (v := (some (.int x))) (h1 := (hG σ2 sr2 ln2 Lc2 μ2)) rfl rfl rfl (h2) ?_
  refine am_g 1 (if x = x then 1277 else 529) [some (.ref 0), some (.ref 14), some (.ref 47), some (.int (nI i))] [] (hG σ2 sr2 ln2 Lc2 μ2) rfl ?_
  rw [if_pos (show x = x from rfl)]
  exact kk
set_option maxRecDepth 20000 in
theorem law_9 {x : Int32} {h' : am_H} (i : Nat) (hi : i + 6 ≤ LL) (hL : LL ≤ 3072) (hv : xs i &&& 63 = 9) (h1 : am_X xs LL 11 97 [.ref 14, .int (xs (i + 1)), .int (xs (i + 2))] (hG σ sr ln Lc μ) (some (.int x)) (hG σ2 sr2 ln2 Lc2 μ)) (h2 : am_X xs LL 11 165 [.ref 47, .int (xs (i + 1)), .int (xs (i + 2))] (hG σ2 sr2 ln2 Lc2 μ) (some (.int x)) (hG σ2 sr2 ln2 Lc2 μ2)) (kk : am_R xs LL cd_L_law (am_X xs LL 11) 1277 [some (.ref 0), some (.ref 14), some (.ref 47), some (.int (nI i))] [] (hG σ2 sr2 ln2 Lc2 μ2) (some (.int 1)) h') : am_R xs LL cd_L_law (am_X xs LL 11) 27 [some (.ref 0), some (.ref 14), some (.ref 47), some (.int (nI i))] [] (hG σ sr ln Lc μ) (some (.int 1)) h' := by
  refine am_g 2 29 [some (.ref 0), some (.ref 14), some (.ref 47), some (.int (nI i))] [.int (nI i), .ref 0] (hG σ sr ln Lc μ) rfl ?_
  refine am_sldR (k := i) rfl (rfl) (by omega) (by omega) ?_
  refine am_g 2 33 [some (.ref 0), some (.ref 14), some (.ref 47), some (.int (nI i))] [.int ((xs i) &&& 63)] (hG σ sr ln Lc μ) rfl ?_
  rw [hv]
  refine am_g 6 536 [some (.ref 0), some (.ref 14), some (.ref 47), some (.int (nI i))] [.int ((nI i) + 1), .ref 0, .ref 14] (hG σ sr ln Lc μ) rfl ?_
  refine am_sldR (k := (i + 1)) rfl (show ((nI i) + (nI 1)) = nI (i + 1) from by first | (simp only [nI_up, nI_mul2, nI_add]; done) | (simp only [nI_up, nI_mul2, nI_add]; exact congrArg nI (by omega))) (by omega) (by omega) ?_
  refine am_g 4 541 [some (.ref 0), some (.ref 14), some (.ref 47), some (.int (nI i))] [.int ((nI i) + 2), .ref 0, .int (xs (i + 1)), .ref 14] (hG σ sr ln Lc μ) rfl ?_
  refine am_sldR (k := (i + 2)) rfl (show ((nI i) + (nI 2)) = nI (i + 2) from by first | (simp only [nI_up, nI_mul2, nI_add]; done) | (simp only [nI_up, nI_mul2, nI_add]; exact congrArg nI (by omega))) (by omega) (by omega) ?_
  refine am_call (y := 97) (vs := [.ref 14, .int (xs (i + 1)), .int (xs (i + 2))]) (rest := []) (v := (some (.int x))) (h1 := (hG σ2 sr2 ln2 Lc2 μ)) rfl rfl rfl (h1) ?_
  refine am_g 5 550 [some (.ref 0), some (.ref 14), some (.ref 47), some (.int (nI i))] [.int ((nI i) + 1), .ref 0, .ref 47, .int x] (hG σ2 sr2 ln2 Lc2 μ) rfl ?_
  refine am_sldR (k := (i + 1)) rfl (show ((nI i) + (nI 1)) = nI (i + 1) from by first | (simp only [nI_up, nI_mul2, nI_add]; done) | (simp only [nI_up, nI_mul2, nI_add]; exact congrArg nI (by omega))) (by omega) (by omega) ?_
  refine am_g 4 555 [some (.ref 0), some (.ref 14), some (.ref 47), some (.int (nI i))] [.int ((nI i) + 2), .ref 0, .int (xs (i + 1)), .ref 47, .int x] (hG σ2 sr2 ln2 Lc2 μ) rfl ?_
  refine am_sldR (k := (i + 2)) rfl (show ((nI i) + (nI 2)) = nI (i + 2) from by first | (simp only [nI_up, nI_mul2, nI_add]; done) | (simp only [nI_up, nI_mul2, nI_add]; exact congrArg nI (by omega))) (by omega) (by omega) ?_
  refine am_call (y := 165) (vs := [.ref 47, .int (xs (i + 1)), .int (xs (i + 2))]) (rest := [.int x]) (v := (some (.int x))) (h1 := (hG σ2 sr2 ln2 Lc2 μ2)) rfl rfl rfl (h2) ?_
  refine am_g 1 (if x = x then 1277 else 562) [some (.ref 0), some (.ref 14), some (.ref 47), some (.int (nI i))] [] (hG σ2 sr2 ln2 Lc2 μ2) rfl ?_
  rw [if_pos (show x = x from rfl)]
  exact kk
set_option maxRecDepth 20000 in
theorem law_10 {x : Int32} {h' : am_H} (i : Nat) (hi : i + 6 ≤ LL) (hL : LL ≤ 3072) (hv : xs i &&& 63 = 10) (h1 : am_X xs LL 11 98 [.ref 14, .int (xs (i + 1))] (hG σ sr ln Lc μ) (some (.int x)) (hG σ2 sr2 ln2 Lc2 μ)) (h2 : am_X xs LL 11 174 [.ref 47, .int (xs (i + 1))] (hG σ2 sr2 ln2 Lc2 μ) (some (.int x)) (hG σ2 sr2 ln2 Lc2 μ2)) (kk : am_R xs LL cd_L_law (am_X xs LL 11) 1277 [some (.ref 0), some (.ref 14), some (.ref 47), some (.int (nI i))] [] (hG σ2 sr2 ln2 Lc2 μ2) (some (.int 1)) h') : am_R xs LL cd_L_law (am_X xs LL 11) 27 [some (.ref 0), some (.ref 14), some (.ref 47), some (.int (nI i))] [] (hG σ sr ln Lc μ) (some (.int 1)) h' := by
  refine am_g 2 29 [some (.ref 0), some (.ref 14), some (.ref 47), some (.int (nI i))] [.int (nI i), .ref 0] (hG σ sr ln Lc μ) rfl ?_
  refine am_sldR (k := i) rfl (rfl) (by omega) (by omega) ?_
  refine am_g 2 33 [some (.ref 0), some (.ref 14), some (.ref 47), some (.int (nI i))] [.int ((xs i) &&& 63)] (hG σ sr ln Lc μ) rfl ?_
  rw [hv]
  refine am_g 6 569 [some (.ref 0), some (.ref 14), some (.ref 47), some (.int (nI i))] [.int ((nI i) + 1), .ref 0, .ref 14] (hG σ sr ln Lc μ) rfl ?_
  refine am_sldR (k := (i + 1)) rfl (show ((nI i) + (nI 1)) = nI (i + 1) from by first | (simp only [nI_up, nI_mul2, nI_add]; done) | (simp only [nI_up, nI_mul2, nI_add]; exact congrArg nI (by omega))) (by omega) (by omega) ?_
  refine am_call (y := 98) (vs := [.ref 14, .int (xs (i + 1))]) (rest := []) (v := (some (.int x))) (h1 := (hG σ2 sr2 ln2 Lc2 μ)) rfl rfl rfl (h1) ?_
  refine am_g 5 578 [some (.ref 0), some (.ref 14), some (.ref 47), some (.int (nI i))] [.int ((nI i) + 1), .ref 0, .ref 47, .int x] (hG σ2 sr2 ln2 Lc2 μ) rfl ?_
  refine am_sldR (k := (i + 1)) rfl (show ((nI i) + (nI 1)) = nI (i + 1) from by first | (simp only [nI_up, nI_mul2, nI_add]; done) | (simp only [nI_up, nI_mul2, nI_add]; exact congrArg nI (by omega))) (by omega) (by omega) ?_
  refine am_call (y := 174) (vs := [.ref 47, .int (xs (i + 1))]) (rest := [.int x]) (v := (some (.int x))) (h1 := (hG σ2 sr2 ln2 Lc2 μ2)) rfl rfl rfl (h2) ?_
  refine am_g 1 (if x = x then 1277 else 585) [some (.ref 0), some (.ref 14), some (.ref 47), some (.int (nI i))] [] (hG σ2 sr2 ln2 Lc2 μ2) rfl ?_
  rw [if_pos (show x = x from rfl)]
  exact kk
set_option maxRecDepth 20000 in
theorem law_11 {x : Int32} {h' : am_H} (i : Nat) (hi : i + 6 ≤ LL) (hL : LL ≤ 3072) (hv : xs i &&& 63 = 11) (h1 : am_X xs LL 11 99 [.ref 14, .int (xs (i + 1)), .int (xs (i + 2))] (hG σ sr ln Lc μ) (some (.int x)) (hG σ2 sr2 ln2 Lc2 μ)) (h2 : am_X xs LL 11 175 [.ref 47, .int (xs (i + 1)), .int (xs (i + 2))] (hG σ2 sr2 ln2 Lc2 μ) (some (.int x)) (hG σ2 sr2 ln2 Lc2 μ2)) (kk : am_R xs LL cd_L_law (am_X xs LL 11) 1277 [some (.ref 0), some (.ref 14), some (.ref 47), some (.int (nI i))] [] (hG σ2 sr2 ln2 Lc2 μ2) (some (.int 1)) h') : am_R xs LL cd_L_law (am_X xs LL 11) 27 [some (.ref 0), some (.ref 14), some (.ref 47), some (.int (nI i))] [] (hG σ sr ln Lc μ) (some (.int 1)) h' := by
  refine am_g 2 29 [some (.ref 0), some (.ref 14), some (.ref 47), some (.int (nI i))] [.int (nI i), .ref 0] (hG σ sr ln Lc μ) rfl ?_
  refine am_sldR (k := i) rfl (rfl) (by omega) (by omega) ?_
  refine am_g 2 33 [some (.ref 0), some (.ref 14), some (.ref 47), some (.int (nI i))] [.int ((xs i) &&& 63)] (hG σ sr ln Lc μ) rfl ?_
  rw [hv]
  refine am_g 6 592 [some (.ref 0), some (.ref 14), some (.ref 47), some (.int (nI i))] [.int ((nI i) + 1), .ref 0, .ref 14] (hG σ sr ln Lc μ) rfl ?_
  refine am_sldR (k := (i + 1)) rfl (show ((nI i) + (nI 1)) = nI (i + 1) from by first | (simp only [nI_up, nI_mul2, nI_add]; done) | (simp only [nI_up, nI_mul2, nI_add]; exact congrArg nI (by omega))) (by omega) (by omega) ?_
  refine am_g 4 597 [some (.ref 0), some (.ref 14), some (.ref 47), some (.int (nI i))] [.int ((nI i) + 2), .ref 0, .int (xs (i + 1)), .ref 14] (hG σ sr ln Lc μ) rfl ?_
  refine am_sldR (k := (i + 2)) rfl (show ((nI i) + (nI 2)) = nI (i + 2) from by first | (simp only [nI_up, nI_mul2, nI_add]; done) | (simp only [nI_up, nI_mul2, nI_add]; exact congrArg nI (by omega))) (by omega) (by omega) ?_
  refine am_call (y := 99) (vs := [.ref 14, .int (xs (i + 1)), .int (xs (i + 2))]) (rest := []) (v := (some (.int x))) (h1 := (hG σ2 sr2 ln2 Lc2 μ)) rfl rfl rfl (h1) ?_
  refine am_g 5 606 [some (.ref 0), some (.ref 14), some (.ref 47), some (.int (nI i))] [.int ((nI i) + 1), .ref 0, .ref 47, .int x] (hG σ2 sr2 ln2 Lc2 μ) rfl ?_
  refine am_sldR (k := (i + 1)) rfl (show ((nI i) + (nI 1)) = nI (i + 1) from by first | (simp only [nI_up, nI_mul2, nI_add]; done) | (simp only [nI_up, nI_mul2, nI_add]; exact congrArg nI (by omega))) (by omega) (by omega) ?_
  refine am_g 4 611 [some (.ref 0), some (.ref 14), some (.ref 47), some (.int (nI i))] [.int ((nI i) + 2), .ref 0, .int (xs (i + 1)), .ref 47, .int x] (hG σ2 sr2 ln2 Lc2 μ) rfl ?_
  refine am_sldR (k := (i + 2)) rfl (show ((nI i) + (nI 2)) = nI (i + 2) from by first | (simp only [nI_up, nI_mul2, nI_add]; done) | (simp only [nI_up, nI_mul2, nI_add]; exact congrArg nI (by omega))) (by omega) (by omega) ?_
  refine am_call (y := 175) (vs := [.ref 47, .int (xs (i + 1)), .int (xs (i + 2))]) (rest := [.int x]) (v := (some (.int x))) (h1 := (hG σ2 sr2 ln2 Lc2 μ2)) rfl rfl rfl (h2) ?_
  refine am_g 1 (if x = x then 1277 else 618) [some (.ref 0), some (.ref 14), some (.ref 47), some (.int (nI i))] [] (hG σ2 sr2 ln2 Lc2 μ2) rfl ?_
  rw [if_pos (show x = x from rfl)]
  exact kk
set_option maxRecDepth 20000 in
theorem law_12 {x : Int32} {h' : am_H} (i : Nat) (hi : i + 6 ≤ LL) (hL : LL ≤ 3072) (hv : xs i &&& 63 = 12) (h1 : am_X xs LL 11 100 [.ref 14] (hG σ sr ln Lc μ) (some (.int x)) (hG σ2 sr2 ln2 Lc2 μ)) (h2 : am_X xs LL 11 176 [.ref 47] (hG σ2 sr2 ln2 Lc2 μ) (some (.int x)) (hG σ2 sr2 ln2 Lc2 μ2)) (kk : am_R xs LL cd_L_law (am_X xs LL 11) 1277 [some (.ref 0), some (.ref 14), some (.ref 47), some (.int (nI i))] [] (hG σ2 sr2 ln2 Lc2 μ2) (some (.int 1)) h') : am_R xs LL cd_L_law (am_X xs LL 11) 27 [some (.ref 0), some (.ref 14), some (.ref 47), some (.int (nI i))] [] (hG σ sr ln Lc μ) (some (.int 1)) h' := by
  refine am_g 2 29 [some (.ref 0), some (.ref 14), some (.ref 47), some (.int (nI i))] [.int (nI i), .ref 0] (hG σ sr ln Lc μ) rfl ?_
  refine am_sldR (k := i) rfl (rfl) (by omega) (by omega) ?_
  refine am_g 2 33 [some (.ref 0), some (.ref 14), some (.ref 47), some (.int (nI i))] [.int ((xs i) &&& 63)] (hG σ sr ln Lc μ) rfl ?_
  rw [hv]
  refine am_g 2 621 [some (.ref 0), some (.ref 14), some (.ref 47), some (.int (nI i))] [.ref 14] (hG σ sr ln Lc μ) rfl ?_
  refine am_call (y := 100) (vs := [.ref 14]) (rest := []) (v := (some (.int x))) (h1 := (hG σ2 sr2 ln2 Lc2 μ)) rfl rfl rfl (h1) ?_
  refine am_g 1 625 [some (.ref 0), some (.ref 14), some (.ref 47), some (.int (nI i))] [.ref 47, .int x] (hG σ2 sr2 ln2 Lc2 μ) rfl ?_
  refine am_call (y := 176) (vs := [.ref 47]) (rest := [.int x]) (v := (some (.int x))) (h1 := (hG σ2 sr2 ln2 Lc2 μ2)) rfl rfl rfl (h2) ?_
  refine am_g 1 (if x = x then 1277 else 631) [some (.ref 0), some (.ref 14), some (.ref 47), some (.int (nI i))] [] (hG σ2 sr2 ln2 Lc2 μ2) rfl ?_
  rw [if_pos (show x = x from rfl)]
  exact kk
set_option maxRecDepth 20000 in
theorem law_13 {x : Int32} {h' : am_H} (i : Nat) (hi : i + 6 ≤ LL) (hL : LL ≤ 3072) (hv : xs i &&& 63 = 13) (h1 : am_X xs LL 11 101 [.ref 14, .int (xs (i + 1)), .int (xs (i + 2))] (hG σ sr ln Lc μ) (some (.int x)) (hG σ2 sr2 ln2 Lc2 μ)) (h2 : am_X xs LL 11 177 [.ref 47, .int (xs (i + 1)), .int (xs (i + 2))] (hG σ2 sr2 ln2 Lc2 μ) (some (.int x)) (hG σ2 sr2 ln2 Lc2 μ2)) (kk : am_R xs LL cd_L_law (am_X xs LL 11) 1277 [some (.ref 0), some (.ref 14), some (.ref 47), some (.int (nI i))] [] (hG σ2 sr2 ln2 Lc2 μ2) (some (.int 1)) h') : am_R xs LL cd_L_law (am_X xs LL 11) 27 [some (.ref 0), some (.ref 14), some (.ref 47), some (.int (nI i))] [] (hG σ sr ln Lc μ) (some (.int 1)) h' := by
  refine am_g 2 29 [some (.ref 0), some (.ref 14), some (.ref 47), some (.int (nI i))] [.int (nI i), .ref 0] (hG σ sr ln Lc μ) rfl ?_
  refine am_sldR (k := i) rfl (rfl) (by omega) (by omega) ?_
  refine am_g 2 33 [some (.ref 0), some (.ref 14), some (.ref 47), some (.int (nI i))] [.int ((xs i) &&& 63)] (hG σ sr ln Lc μ) rfl ?_
  rw [hv]
  refine am_g 6 638 [some (.ref 0), some (.ref 14), some (.ref 47), some (.int (nI i))] [.int ((nI i) + 1), .ref 0, .ref 14] (hG σ sr ln Lc μ) rfl ?_
  refine am_sldR (k := (i + 1)) rfl (show ((nI i) + (nI 1)) = nI (i + 1) from by first | (simp only [nI_up, nI_mul2, nI_add]; done) | (simp only [nI_up, nI_mul2, nI_add]; exact congrArg nI (by omega))) (by omega) (by omega) ?_
  refine am_g 4 643 [some (.ref 0), some (.ref 14), some (.ref 47), some (.int (nI i))] [.int ((nI i) + 2), .ref 0, .int (xs (i + 1)), .ref 14] (hG σ sr ln Lc μ) rfl ?_
  refine am_sldR (k := (i + 2)) rfl (show ((nI i) + (nI 2)) = nI (i + 2) from by first | (simp only [nI_up, nI_mul2, nI_add]; done) | (simp only [nI_up, nI_mul2, nI_add]; exact congrArg nI (by omega))) (by omega) (by omega) ?_
  refine am_call (y := 101) (vs := [.ref 14, .int (xs (i + 1)), .int (xs (i + 2))]) (rest := []) (v := (some (.int x))) (h1 := (hG σ2 sr2 ln2 Lc2 μ)) rfl rfl rfl (h1) ?_
  refine am_g 5 652 [some (.ref 0), some (.ref 14), some (.ref 47), some (.int (nI i))] [.int ((nI i) + 1), .ref 0, .ref 47, .int x] (hG σ2 sr2 ln2 Lc2 μ) rfl ?_
  refine am_sldR (k := (i + 1)) rfl (show ((nI i) + (nI 1)) = nI (i + 1) from by first | (simp only [nI_up, nI_mul2, nI_add]; done) | (simp only [nI_up, nI_mul2, nI_add]; exact congrArg nI (by omega))) (by omega) (by omega) ?_
  refine am_g 4 657 [some (.ref 0), some (.ref 14), some (.ref 47), some (.int (nI i))] [.int ((nI i) + 2), .ref 0, .int (xs (i + 1)), .ref 47, .int x] (hG σ2 sr2 ln2 Lc2 μ) rfl ?_
  refine am_sldR (k := (i + 2)) rfl (show ((nI i) + (nI 2)) = nI (i + 2) from by first | (simp only [nI_up, nI_mul2, nI_add]; done) | (simp only [nI_up, nI_mul2, nI_add]; exact congrArg nI (by omega))) (by omega) (by omega) ?_
  refine am_call (y := 177) (vs := [.ref 47, .int (xs (i + 1)), .int (xs (i + 2))]) (rest := [.int x]) (v := (some (.int x))) (h1 := (hG σ2 sr2 ln2 Lc2 μ2)) rfl rfl rfl (h2) ?_
  refine am_g 1 (if x = x then 1277 else 664) [some (.ref 0), some (.ref 14), some (.ref 47), some (.int (nI i))] [] (hG σ2 sr2 ln2 Lc2 μ2) rfl ?_
  rw [if_pos (show x = x from rfl)]
  exact kk
set_option maxRecDepth 20000 in
theorem law_14 {x : Int32} {h' : am_H} (i : Nat) (hi : i + 6 ≤ LL) (hL : LL ≤ 3072) (hv : xs i &&& 63 = 14) (h1 : am_X xs LL 11 102 [.ref 14, .int (xs (i + 1))] (hG σ sr ln Lc μ) (some (.int x)) (hG σ2 sr2 ln2 Lc2 μ)) (h2 : am_X xs LL 11 178 [.ref 47, .int (xs (i + 1))] (hG σ2 sr2 ln2 Lc2 μ) (some (.int x)) (hG σ2 sr2 ln2 Lc2 μ2)) (kk : am_R xs LL cd_L_law (am_X xs LL 11) 1277 [some (.ref 0), some (.ref 14), some (.ref 47), some (.int (nI i))] [] (hG σ2 sr2 ln2 Lc2 μ2) (some (.int 1)) h') : am_R xs LL cd_L_law (am_X xs LL 11) 27 [some (.ref 0), some (.ref 14), some (.ref 47), some (.int (nI i))] [] (hG σ sr ln Lc μ) (some (.int 1)) h' := by
  refine am_g 2 29 [some (.ref 0), some (.ref 14), some (.ref 47), some (.int (nI i))] [.int (nI i), .ref 0] (hG σ sr ln Lc μ) rfl ?_
  refine am_sldR (k := i) rfl (rfl) (by omega) (by omega) ?_
  refine am_g 2 33 [some (.ref 0), some (.ref 14), some (.ref 47), some (.int (nI i))] [.int ((xs i) &&& 63)] (hG σ sr ln Lc μ) rfl ?_
  rw [hv]
  refine am_g 6 671 [some (.ref 0), some (.ref 14), some (.ref 47), some (.int (nI i))] [.int ((nI i) + 1), .ref 0, .ref 14] (hG σ sr ln Lc μ) rfl ?_
  refine am_sldR (k := (i + 1)) rfl (show ((nI i) + (nI 1)) = nI (i + 1) from by first | (simp only [nI_up, nI_mul2, nI_add]; done) | (simp only [nI_up, nI_mul2, nI_add]; exact congrArg nI (by omega))) (by omega) (by omega) ?_
  refine am_call (y := 102) (vs := [.ref 14, .int (xs (i + 1))]) (rest := []) (v := (some (.int x))) (h1 := (hG σ2 sr2 ln2 Lc2 μ)) rfl rfl rfl (h1) ?_
  refine am_g 5 680 [some (.ref 0), some (.ref 14), some (.ref 47), some (.int (nI i))] [.int ((nI i) + 1), .ref 0, .ref 47, .int x] (hG σ2 sr2 ln2 Lc2 μ) rfl ?_
  refine am_sldR (k := (i + 1)) rfl (show ((nI i) + (nI 1)) = nI (i + 1) from by first | (simp only [nI_up, nI_mul2, nI_add]; done) | (simp only [nI_up, nI_mul2, nI_add]; exact congrArg nI (by omega))) (by omega) (by omega) ?_
  refine am_call (y := 178) (vs := [.ref 47, .int (xs (i + 1))]) (rest := [.int x]) (v := (some (.int x))) (h1 := (hG σ2 sr2 ln2 Lc2 μ2)) rfl rfl rfl (h2) ?_
  refine am_g 1 (if x = x then 1277 else 687) [some (.ref 0), some (.ref 14), some (.ref 47), some (.int (nI i))] [] (hG σ2 sr2 ln2 Lc2 μ2) rfl ?_
  rw [if_pos (show x = x from rfl)]
  exact kk
set_option maxRecDepth 20000 in
theorem law_15 {x : Int32} {h' : am_H} (i : Nat) (hi : i + 6 ≤ LL) (hL : LL ≤ 3072) (hv : xs i &&& 63 = 15) (h1 : am_X xs LL 11 103 [.ref 14, .int (xs (i + 1))] (hG σ sr ln Lc μ) (some (.int x)) (hG σ2 sr2 ln2 Lc2 μ)) (h2 : am_X xs LL 11 180 [.ref 47, .int (xs (i + 1))] (hG σ2 sr2 ln2 Lc2 μ) (some (.int x)) (hG σ2 sr2 ln2 Lc2 μ2)) (kk : am_R xs LL cd_L_law (am_X xs LL 11) 1277 [some (.ref 0), some (.ref 14), some (.ref 47), some (.int (nI i))] [] (hG σ2 sr2 ln2 Lc2 μ2) (some (.int 1)) h') : am_R xs LL cd_L_law (am_X xs LL 11) 27 [some (.ref 0), some (.ref 14), some (.ref 47), some (.int (nI i))] [] (hG σ sr ln Lc μ) (some (.int 1)) h' := by
  refine am_g 2 29 [some (.ref 0), some (.ref 14), some (.ref 47), some (.int (nI i))] [.int (nI i), .ref 0] (hG σ sr ln Lc μ) rfl ?_
  refine am_sldR (k := i) rfl (rfl) (by omega) (by omega) ?_
  refine am_g 2 33 [some (.ref 0), some (.ref 14), some (.ref 47), some (.int (nI i))] [.int ((xs i) &&& 63)] (hG σ sr ln Lc μ) rfl ?_
  rw [hv]
  refine am_g 6 694 [some (.ref 0), some (.ref 14), some (.ref 47), some (.int (nI i))] [.int ((nI i) + 1), .ref 0, .ref 14] (hG σ sr ln Lc μ) rfl ?_
  refine am_sldR (k := (i + 1)) rfl (show ((nI i) + (nI 1)) = nI (i + 1) from by first | (simp only [nI_up, nI_mul2, nI_add]; done) | (simp only [nI_up, nI_mul2, nI_add]; exact congrArg nI (by omega))) (by omega) (by omega) ?_
  refine am_call (y := 103) (vs := [.ref 14, .int (xs (i + 1))]) (rest := []) (v := (some (.int x))) (h1 := (hG σ2 sr2 ln2 Lc2 μ)) rfl rfl rfl (h1) ?_
  refine am_g 5 703 [some (.ref 0), some (.ref 14), some (.ref 47), some (.int (nI i))] [.int ((nI i) + 1), .ref 0, .ref 47, .int x] (hG σ2 sr2 ln2 Lc2 μ) rfl ?_
  refine am_sldR (k := (i + 1)) rfl (show ((nI i) + (nI 1)) = nI (i + 1) from by first | (simp only [nI_up, nI_mul2, nI_add]; done) | (simp only [nI_up, nI_mul2, nI_add]; exact congrArg nI (by omega))) (by omega) (by omega) ?_
  refine am_call (y := 180) (vs := [.ref 47, .int (xs (i + 1))]) (rest := [.int x]) (v := (some (.int x))) (h1 := (hG σ2 sr2 ln2 Lc2 μ2)) rfl rfl rfl (h2) ?_
  refine am_g 1 (if x = x then 1277 else 710) [some (.ref 0), some (.ref 14), some (.ref 47), some (.int (nI i))] [] (hG σ2 sr2 ln2 Lc2 μ2) rfl ?_
  rw [if_pos (show x = x from rfl)]
  exact kk
set_option maxRecDepth 20000 in
theorem law_16 {x : Int32} {h' : am_H} (i : Nat) (hi : i + 6 ≤ LL) (hL : LL ≤ 3072) (hv : xs i &&& 63 = 16) (h1 : am_X xs LL 11 104 [.ref 14, .int (xs (i + 1)), .int (xs (i + 2)), .int (xs (i + 3))] (hG σ sr ln Lc μ) (some (.int x)) (hG σ2 sr2 ln2 Lc2 μ)) (h2 : am_X xs LL 11 182 [.ref 47, .int (xs (i + 1)), .int (xs (i + 2)), .int (xs (i + 3))] (hG σ2 sr2 ln2 Lc2 μ) (some (.int x)) (hG σ2 sr2 ln2 Lc2 μ2)) (kk : am_R xs LL cd_L_law (am_X xs LL 11) 1277 [some (.ref 0), some (.ref 14), some (.ref 47), some (.int (nI i))] [] (hG σ2 sr2 ln2 Lc2 μ2) (some (.int 1)) h') : am_R xs LL cd_L_law (am_X xs LL 11) 27 [some (.ref 0), some (.ref 14), some (.ref 47), some (.int (nI i))] [] (hG σ sr ln Lc μ) (some (.int 1)) h' := by
  refine am_g 2 29 [some (.ref 0), some (.ref 14), some (.ref 47), some (.int (nI i))] [.int (nI i), .ref 0] (hG σ sr ln Lc μ) rfl ?_
  refine am_sldR (k := i) rfl (rfl) (by omega) (by omega) ?_
  refine am_g 2 33 [some (.ref 0), some (.ref 14), some (.ref 47), some (.int (nI i))] [.int ((xs i) &&& 63)] (hG σ sr ln Lc μ) rfl ?_
  rw [hv]
  refine am_g 6 717 [some (.ref 0), some (.ref 14), some (.ref 47), some (.int (nI i))] [.int ((nI i) + 1), .ref 0, .ref 14] (hG σ sr ln Lc μ) rfl ?_
  refine am_sldR (k := (i + 1)) rfl (show ((nI i) + (nI 1)) = nI (i + 1) from by first | (simp only [nI_up, nI_mul2, nI_add]; done) | (simp only [nI_up, nI_mul2, nI_add]; exact congrArg nI (by omega))) (by omega) (by omega) ?_
  refine am_g 4 722 [some (.ref 0), some (.ref 14), some (.ref 47), some (.int (nI i))] [.int ((nI i) + 2), .ref 0, .int (xs (i + 1)), .ref 14] (hG σ sr ln Lc μ) rfl ?_
  refine am_sldR (k := (i + 2)) rfl (show ((nI i) + (nI 2)) = nI (i + 2) from by first | (simp only [nI_up, nI_mul2, nI_add]; done) | (simp only [nI_up, nI_mul2, nI_add]; exact congrArg nI (by omega))) (by omega) (by omega) ?_
  refine am_g 4 727 [some (.ref 0), some (.ref 14), some (.ref 47), some (.int (nI i))] [.int ((nI i) + 3), .ref 0, .int (xs (i + 2)), .int (xs (i + 1)), .ref 14] (hG σ sr ln Lc μ) rfl ?_
  refine am_sldR (k := (i + 3)) rfl (show ((nI i) + (nI 3)) = nI (i + 3) from by first | (simp only [nI_up, nI_mul2, nI_add]; done) | (simp only [nI_up, nI_mul2, nI_add]; exact congrArg nI (by omega))) (by omega) (by omega) ?_
  refine am_call (y := 104) (vs := [.ref 14, .int (xs (i + 1)), .int (xs (i + 2)), .int (xs (i + 3))]) (rest := []) (v := (some (.int x))) (h1 := (hG σ2 sr2 ln2 Lc2 μ)) rfl rfl rfl (h1) ?_
  refine am_g 5 736 [some (.ref 0), some (.ref 14), some (.ref 47), some (.int (nI i))] [.int ((nI i) + 1), .ref 0, .ref 47, .int x] (hG σ2 sr2 ln2 Lc2 μ) rfl ?_
  refine am_sldR (k := (i + 1)) rfl (show ((nI i) + (nI 1)) = nI (i + 1) from by first | (simp only [nI_up, nI_mul2, nI_add]; done) | (simp only [nI_up, nI_mul2, nI_add]; exact congrArg nI (by omega))) (by omega) (by omega) ?_
  refine am_g 4 741 [some (.ref 0), some (.ref 14), some (.ref 47), some (.int (nI i))] [.int ((nI i) + 2), .ref 0, .int (xs (i + 1)), .ref 47, .int x] (hG σ2 sr2 ln2 Lc2 μ) rfl ?_
  refine am_sldR (k := (i + 2)) rfl (show ((nI i) + (nI 2)) = nI (i + 2) from by first | (simp only [nI_up, nI_mul2, nI_add]; done) | (simp only [nI_up, nI_mul2, nI_add]; exact congrArg nI (by omega))) (by omega) (by omega) ?_
  refine am_g 4 746 [some (.ref 0), some (.ref 14), some (.ref 47), some (.int (nI i))] [.int ((nI i) + 3), .ref 0, .int (xs (i + 2)), .int (xs (i + 1)), .ref 47, .int x] (hG σ2 sr2 ln2 Lc2 μ) rfl ?_
  refine am_sldR (k := (i + 3)) rfl (show ((nI i) + (nI 3)) = nI (i + 3) from by first | (simp only [nI_up, nI_mul2, nI_add]; done) | (simp only [nI_up, nI_mul2, nI_add]; exact congrArg nI (by omega))) (by omega) (by omega) ?_
  refine am_call (y := 182) (vs := [.ref 47, .int (xs (i + 1)), .int (xs (i + 2)), .int (xs (i + 3))]) (rest := [.int x]) (v := (some (.int x))) (h1 := (hG σ2 sr2 ln2 Lc2 μ2)) rfl rfl rfl (h2) ?_
  refine am_g 1 (if x = x then 1277 else 753) [some (.ref 0), some (.ref 14), some (.ref 47), some (.int (nI i))] [] (hG σ2 sr2 ln2 Lc2 μ2) rfl ?_
  rw [if_pos (show x = x from rfl)]
  exact kk
set_option maxRecDepth 20000 in
theorem law_17 {x : Int32} {h' : am_H} (i : Nat) (hi : i + 6 ≤ LL) (hL : LL ≤ 3072) (hv : xs i &&& 63 = 17) (h1 : am_X xs LL 11 105 [.ref 14, .int (xs (i + 1))] (hG σ sr ln Lc μ) (some (.int x)) (hG σ2 sr2 ln2 Lc2 μ)) (h2 : am_X xs LL 11 183 [.ref 47, .int (xs (i + 1))] (hG σ2 sr2 ln2 Lc2 μ) (some (.int x)) (hG σ2 sr2 ln2 Lc2 μ2)) (kk : am_R xs LL cd_L_law (am_X xs LL 11) 1277 [some (.ref 0), some (.ref 14), some (.ref 47), some (.int (nI i))] [] (hG σ2 sr2 ln2 Lc2 μ2) (some (.int 1)) h') : am_R xs LL cd_L_law (am_X xs LL 11) 27 [some (.ref 0), some (.ref 14), some (.ref 47), some (.int (nI i))] [] (hG σ sr ln Lc μ) (some (.int 1)) h' := by
  refine am_g 2 29 [some (.ref 0), some (.ref 14), some (.ref 47), some (.int (nI i))] [.int (nI i), .ref 0] (hG σ sr ln Lc μ) rfl ?_
  refine am_sldR (k := i) rfl (rfl) (by omega) (by omega) ?_
  refine am_g 2 33 [some (.ref 0), some (.ref 14), some (.ref 47), some (.int (nI i))] [.int ((xs i) &&& 63)] (hG σ sr ln Lc μ) rfl ?_
  rw [hv]
  refine am_g 6 760 [some (.ref 0), some (.ref 14), some (.ref 47), some (.int (nI i))] [.int ((nI i) + 1), .ref 0, .ref 14] (hG σ sr ln Lc μ) rfl ?_
  refine am_sldR (k := (i + 1)) rfl (show ((nI i) + (nI 1)) = nI (i + 1) from by first | (simp only [nI_up, nI_mul2, nI_add]; done) | (simp only [nI_up, nI_mul2, nI_add]; exact congrArg nI (by omega))) (by omega) (by omega) ?_
  refine am_call (y := 105) (vs := [.ref 14, .int (xs (i + 1))]) (rest := []) (v := (some (.int x))) (h1 := (hG σ2 sr2 ln2 Lc2 μ)) rfl rfl rfl (h1) ?_
  refine am_g 5 769 [some (.ref 0), some (.ref 14), some (.ref 47), some (.int (nI i))] [.int ((nI i) + 1), .ref 0, .ref 47, .int x] (hG σ2 sr2 ln2 Lc2 μ) rfl ?_
  refine am_sldR (k := (i + 1)) rfl (show ((nI i) + (nI 1)) = nI (i + 1) from by first | (simp only [nI_up, nI_mul2, nI_add]; done) | (simp only [nI_up, nI_mul2, nI_add]; exact congrArg nI (by omega))) (by omega) (by omega) ?_
  refine am_call (y := 183) (vs := [.ref 47, .int (xs (i + 1))]) (rest := [.int x]) (v := (some (.int x))) (h1 := (hG σ2 sr2 ln2 Lc2 μ2)) rfl rfl rfl (h2) ?_
  refine am_g 1 (if x = x then 1277 else 776) [some (.ref 0), some (.ref 14), some (.ref 47), some (.int (nI i))] [] (hG σ2 sr2 ln2 Lc2 μ2) rfl ?_
  rw [if_pos (show x = x from rfl)]
  exact kk
set_option maxRecDepth 20000 in
theorem law_18 {x : Int32} {h' : am_H} (i : Nat) (hi : i + 6 ≤ LL) (hL : LL ≤ 3072) (hv : xs i &&& 63 = 18) (h1 : am_X xs LL 11 106 [.ref 14, .int (xs (i + 1))] (hG σ sr ln Lc μ) (some (.int x)) (hG σ2 sr2 ln2 Lc2 μ)) (h2 : am_X xs LL 11 185 [.ref 47, .int (xs (i + 1))] (hG σ2 sr2 ln2 Lc2 μ) (some (.int x)) (hG σ2 sr2 ln2 Lc2 μ2)) (kk : am_R xs LL cd_L_law (am_X xs LL 11) 1277 [some (.ref 0), some (.ref 14), some (.ref 47), some (.int (nI i))] [] (hG σ2 sr2 ln2 Lc2 μ2) (some (.int 1)) h') : am_R xs LL cd_L_law (am_X xs LL 11) 27 [some (.ref 0), some (.ref 14), some (.ref 47), some (.int (nI i))] [] (hG σ sr ln Lc μ) (some (.int 1)) h' := by
  refine am_g 2 29 [some (.ref 0), some (.ref 14), some (.ref 47), some (.int (nI i))] [.int (nI i), .ref 0] (hG σ sr ln Lc μ) rfl ?_
  refine am_sldR (k := i) rfl (rfl) (by omega) (by omega) ?_
  refine am_g 2 33 [some (.ref 0), some (.ref 14), some (.ref 47), some (.int (nI i))] [.int ((xs i) &&& 63)] (hG σ sr ln Lc μ) rfl ?_
  rw [hv]
  refine am_g 6 783 [some (.ref 0), some (.ref 14), some (.ref 47), some (.int (nI i))] [.int ((nI i) + 1), .ref 0, .ref 14] (hG σ sr ln Lc μ) rfl ?_
  refine am_sldR (k := (i + 1)) rfl (show ((nI i) + (nI 1)) = nI (i + 1) from by first | (simp only [nI_up, nI_mul2, nI_add]; done) | (simp only [nI_up, nI_mul2, nI_add]; exact congrArg nI (by omega))) (by omega) (by omega) ?_
  refine am_call (y := 106) (vs := [.ref 14, .int (xs (i + 1))]) (rest := []) (v := (some (.int x))) (h1 := (hG σ2 sr2 ln2 Lc2 μ)) rfl rfl rfl (h1) ?_
  refine am_g 5 792 [some (.ref 0), some (.ref 14), some (.ref 47), some (.int (nI i))] [.int ((nI i) + 1), .ref 0, .ref 47, .int x] (hG σ2 sr2 ln2 Lc2 μ) rfl ?_
  refine am_sldR (k := (i + 1)) rfl (show ((nI i) + (nI 1)) = nI (i + 1) from by first | (simp only [nI_up, nI_mul2, nI_add]; done) | (simp only [nI_up, nI_mul2, nI_add]; exact congrArg nI (by omega))) (by omega) (by omega) ?_
  refine am_call (y := 185) (vs := [.ref 47, .int (xs (i + 1))]) (rest := [.int x]) (v := (some (.int x))) (h1 := (hG σ2 sr2 ln2 Lc2 μ2)) rfl rfl rfl (h2) ?_
  refine am_g 1 (if x = x then 1277 else 799) [some (.ref 0), some (.ref 14), some (.ref 47), some (.int (nI i))] [] (hG σ2 sr2 ln2 Lc2 μ2) rfl ?_
  rw [if_pos (show x = x from rfl)]
  exact kk
set_option maxRecDepth 20000 in
theorem law_19 {x : Int32} {h' : am_H} (i : Nat) (hi : i + 6 ≤ LL) (hL : LL ≤ 3072) (hv : xs i &&& 63 = 19) (h1 : am_X xs LL 11 107 [.ref 14] (hG σ sr ln Lc μ) (some (.int x)) (hG σ2 sr2 ln2 Lc2 μ)) (h2 : am_X xs LL 11 186 [.ref 47] (hG σ2 sr2 ln2 Lc2 μ) (some (.int x)) (hG σ2 sr2 ln2 Lc2 μ2)) (kk : am_R xs LL cd_L_law (am_X xs LL 11) 1277 [some (.ref 0), some (.ref 14), some (.ref 47), some (.int (nI i))] [] (hG σ2 sr2 ln2 Lc2 μ2) (some (.int 1)) h') : am_R xs LL cd_L_law (am_X xs LL 11) 27 [some (.ref 0), some (.ref 14), some (.ref 47), some (.int (nI i))] [] (hG σ sr ln Lc μ) (some (.int 1)) h' := by
  refine am_g 2 29 [some (.ref 0), some (.ref 14), some (.ref 47), some (.int (nI i))] [.int (nI i), .ref 0] (hG σ sr ln Lc μ) rfl ?_
  refine am_sldR (k := i) rfl (rfl) (by omega) (by omega) ?_
  refine am_g 2 33 [some (.ref 0), some (.ref 14), some (.ref 47), some (.int (nI i))] [.int ((xs i) &&& 63)] (hG σ sr ln Lc μ) rfl ?_
  rw [hv]
  refine am_g 2 802 [some (.ref 0), some (.ref 14), some (.ref 47), some (.int (nI i))] [.ref 14] (hG σ sr ln Lc μ) rfl ?_
  refine am_call (y := 107) (vs := [.ref 14]) (rest := []) (v := (some (.int x))) (h1 := (hG σ2 sr2 ln2 Lc2 μ)) rfl rfl rfl (h1) ?_
  refine am_g 1 806 [some (.ref 0), some (.ref 14), some (.ref 47), some (.int (nI i))] [.ref 47, .int x] (hG σ2 sr2 ln2 Lc2 μ) rfl ?_
  refine am_call (y := 186) (vs := [.ref 47]) (rest := [.int x]) (v := (some (.int x))) (h1 := (hG σ2 sr2 ln2 Lc2 μ2)) rfl rfl rfl (h2) ?_
  refine am_g 1 (if x = x then 1277 else 812) [some (.ref 0), some (.ref 14), some (.ref 47), some (.int (nI i))] [] (hG σ2 sr2 ln2 Lc2 μ2) rfl ?_
  rw [if_pos (show x = x from rfl)]
  exact kk
set_option maxRecDepth 20000 in
theorem law_20 {x : Int64} {h' : am_H} (i : Nat) (hi : i + 6 ≤ LL) (hL : LL ≤ 3072) (hv : xs i &&& 63 = 20) (h1 : am_X xs LL 11 108 [.ref 14, .int (xs (i + 1)), .int (xs (i + 2))] (hG σ sr ln Lc μ) (some (.long x)) (hG σ2 sr2 ln2 Lc2 μ)) (h2 : am_X xs LL 11 187 [.ref 47, .int (xs (i + 1)), .int (xs (i + 2))] (hG σ2 sr2 ln2 Lc2 μ) (some (.long x)) (hG σ2 sr2 ln2 Lc2 μ2)) (kk : am_R xs LL cd_L_law (am_X xs LL 11) 1277 [some (.ref 0), some (.ref 14), some (.ref 47), some (.int (nI i))] [] (hG σ2 sr2 ln2 Lc2 μ2) (some (.int 1)) h') : am_R xs LL cd_L_law (am_X xs LL 11) 27 [some (.ref 0), some (.ref 14), some (.ref 47), some (.int (nI i))] [] (hG σ sr ln Lc μ) (some (.int 1)) h' := by
  refine am_g 2 29 [some (.ref 0), some (.ref 14), some (.ref 47), some (.int (nI i))] [.int (nI i), .ref 0] (hG σ sr ln Lc μ) rfl ?_
  refine am_sldR (k := i) rfl (rfl) (by omega) (by omega) ?_
  refine am_g 2 33 [some (.ref 0), some (.ref 14), some (.ref 47), some (.int (nI i))] [.int ((xs i) &&& 63)] (hG σ sr ln Lc μ) rfl ?_
  rw [hv]
  refine am_g 6 819 [some (.ref 0), some (.ref 14), some (.ref 47), some (.int (nI i))] [.int ((nI i) + 1), .ref 0, .ref 14] (hG σ sr ln Lc μ) rfl ?_
  refine am_sldR (k := (i + 1)) rfl (show ((nI i) + (nI 1)) = nI (i + 1) from by first | (simp only [nI_up, nI_mul2, nI_add]; done) | (simp only [nI_up, nI_mul2, nI_add]; exact congrArg nI (by omega))) (by omega) (by omega) ?_
  refine am_g 4 824 [some (.ref 0), some (.ref 14), some (.ref 47), some (.int (nI i))] [.int ((nI i) + 2), .ref 0, .int (xs (i + 1)), .ref 14] (hG σ sr ln Lc μ) rfl ?_
  refine am_sldR (k := (i + 2)) rfl (show ((nI i) + (nI 2)) = nI (i + 2) from by first | (simp only [nI_up, nI_mul2, nI_add]; done) | (simp only [nI_up, nI_mul2, nI_add]; exact congrArg nI (by omega))) (by omega) (by omega) ?_
  refine am_call (y := 108) (vs := [.ref 14, .int (xs (i + 1)), .int (xs (i + 2))]) (rest := []) (v := (some (.long x))) (h1 := (hG σ2 sr2 ln2 Lc2 μ)) rfl rfl rfl (h1) ?_
  refine am_g 5 833 [some (.ref 0), some (.ref 14), some (.ref 47), some (.int (nI i))] [.int ((nI i) + 1), .ref 0, .ref 47, .long x] (hG σ2 sr2 ln2 Lc2 μ) rfl ?_
  refine am_sldR (k := (i + 1)) rfl (show ((nI i) + (nI 1)) = nI (i + 1) from by first | (simp only [nI_up, nI_mul2, nI_add]; done) | (simp only [nI_up, nI_mul2, nI_add]; exact congrArg nI (by omega))) (by omega) (by omega) ?_
  refine am_g 4 838 [some (.ref 0), some (.ref 14), some (.ref 47), some (.int (nI i))] [.int ((nI i) + 2), .ref 0, .int (xs (i + 1)), .ref 47, .long x] (hG σ2 sr2 ln2 Lc2 μ) rfl ?_
  refine am_sldR (k := (i + 2)) rfl (show ((nI i) + (nI 2)) = nI (i + 2) from by first | (simp only [nI_up, nI_mul2, nI_add]; done) | (simp only [nI_up, nI_mul2, nI_add]; exact congrArg nI (by omega))) (by omega) (by omega) ?_
  refine am_call (y := 187) (vs := [.ref 47, .int (xs (i + 1)), .int (xs (i + 2))]) (rest := [.long x]) (v := (some (.long x))) (h1 := (hG σ2 sr2 ln2 Lc2 μ2)) rfl rfl rfl (h2) ?_
  refine am_g 2 (if (lg_cmp x x) = 0 then 1277 else 846) [some (.ref 0), some (.ref 14), some (.ref 47), some (.int (nI i))] [] (hG σ2 sr2 ln2 Lc2 μ2) rfl ?_
  rw [if_pos (show (lg_cmp x x) = 0 from rl_cmp x)]
  exact kk
set_option maxRecDepth 20000 in
theorem law_21 {x : Int32} {h' : am_H} (i : Nat) (hi : i + 6 ≤ LL) (hL : LL ≤ 3072) (hv : xs i &&& 63 = 21) (h1 : am_X xs LL 11 109 [.ref 14, .int (xs (i + 1)), .int (xs (i + 2))] (hG σ sr ln Lc μ) (some (.int x)) (hG σ2 sr2 ln2 Lc2 μ)) (h2 : am_X xs LL 11 188 [.ref 47, .int (xs (i + 1)), .int (xs (i + 2))] (hG σ2 sr2 ln2 Lc2 μ) (some (.int x)) (hG σ2 sr2 ln2 Lc2 μ2)) (kk : am_R xs LL cd_L_law (am_X xs LL 11) 1277 [some (.ref 0), some (.ref 14), some (.ref 47), some (.int (nI i))] [] (hG σ2 sr2 ln2 Lc2 μ2) (some (.int 1)) h') : am_R xs LL cd_L_law (am_X xs LL 11) 27 [some (.ref 0), some (.ref 14), some (.ref 47), some (.int (nI i))] [] (hG σ sr ln Lc μ) (some (.int 1)) h' := by
  refine am_g 2 29 [some (.ref 0), some (.ref 14), some (.ref 47), some (.int (nI i))] [.int (nI i), .ref 0] (hG σ sr ln Lc μ) rfl ?_
  refine am_sldR (k := i) rfl (rfl) (by omega) (by omega) ?_
  refine am_g 2 33 [some (.ref 0), some (.ref 14), some (.ref 47), some (.int (nI i))] [.int ((xs i) &&& 63)] (hG σ sr ln Lc μ) rfl ?_
  rw [hv]
  refine am_g 6 853 [some (.ref 0), some (.ref 14), some (.ref 47), some (.int (nI i))] [.int ((nI i) + 1), .ref 0, .ref 14] (hG σ sr ln Lc μ) rfl ?_
  refine am_sldR (k := (i + 1)) rfl (show ((nI i) + (nI 1)) = nI (i + 1) from by first | (simp only [nI_up, nI_mul2, nI_add]; done) | (simp only [nI_up, nI_mul2, nI_add]; exact congrArg nI (by omega))) (by omega) (by omega) ?_
  refine am_g 4 858 [some (.ref 0), some (.ref 14), some (.ref 47), some (.int (nI i))] [.int ((nI i) + 2), .ref 0, .int (xs (i + 1)), .ref 14] (hG σ sr ln Lc μ) rfl ?_
  refine am_sldR (k := (i + 2)) rfl (show ((nI i) + (nI 2)) = nI (i + 2) from by first | (simp only [nI_up, nI_mul2, nI_add]; done) | (simp only [nI_up, nI_mul2, nI_add]; exact congrArg nI (by omega))) (by omega) (by omega) ?_
  refine am_call (y := 109) (vs := [.ref 14, .int (xs (i + 1)), .int (xs (i + 2))]) (rest := []) (v := (some (.int x))) (h1 := (hG σ2 sr2 ln2 Lc2 μ)) rfl rfl rfl (h1) ?_
  refine am_g 5 867 [some (.ref 0), some (.ref 14), some (.ref 47), some (.int (nI i))] [.int ((nI i) + 1), .ref 0, .ref 47, .int x] (hG σ2 sr2 ln2 Lc2 μ) rfl ?_
  refine am_sldR (k := (i + 1)) rfl (show ((nI i) + (nI 1)) = nI (i + 1) from by first | (simp only [nI_up, nI_mul2, nI_add]; done) | (simp only [nI_up, nI_mul2, nI_add]; exact congrArg nI (by omega))) (by omega) (by omega) ?_
  refine am_g 4 872 [some (.ref 0), some (.ref 14), some (.ref 47), some (.int (nI i))] [.int ((nI i) + 2), .ref 0, .int (xs (i + 1)), .ref 47, .int x] (hG σ2 sr2 ln2 Lc2 μ) rfl ?_
  refine am_sldR (k := (i + 2)) rfl (show ((nI i) + (nI 2)) = nI (i + 2) from by first | (simp only [nI_up, nI_mul2, nI_add]; done) | (simp only [nI_up, nI_mul2, nI_add]; exact congrArg nI (by omega))) (by omega) (by omega) ?_
  refine am_call (y := 188) (vs := [.ref 47, .int (xs (i + 1)), .int (xs (i + 2))]) (rest := [.int x]) (v := (some (.int x))) (h1 := (hG σ2 sr2 ln2 Lc2 μ2)) rfl rfl rfl (h2) ?_
  refine am_g 1 (if x = x then 1277 else 879) [some (.ref 0), some (.ref 14), some (.ref 47), some (.int (nI i))] [] (hG σ2 sr2 ln2 Lc2 μ2) rfl ?_
  rw [if_pos (show x = x from rfl)]
  exact kk
set_option maxRecDepth 20000 in
theorem law_22 {x : Int32} {h' : am_H} (i : Nat) (hi : i + 6 ≤ LL) (hL : LL ≤ 3072) (hv : xs i &&& 63 = 22) (h1 : am_X xs LL 11 110 [.ref 14, .int (xs (i + 1))] (hG σ sr ln Lc μ) (some (.int x)) (hG σ2 sr2 ln2 Lc2 μ)) (h2 : am_X xs LL 11 190 [.ref 47, .int (xs (i + 1))] (hG σ2 sr2 ln2 Lc2 μ) (some (.int x)) (hG σ2 sr2 ln2 Lc2 μ2)) (kk : am_R xs LL cd_L_law (am_X xs LL 11) 1277 [some (.ref 0), some (.ref 14), some (.ref 47), some (.int (nI i))] [] (hG σ2 sr2 ln2 Lc2 μ2) (some (.int 1)) h') : am_R xs LL cd_L_law (am_X xs LL 11) 27 [some (.ref 0), some (.ref 14), some (.ref 47), some (.int (nI i))] [] (hG σ sr ln Lc μ) (some (.int 1)) h' := by
  refine am_g 2 29 [some (.ref 0), some (.ref 14), some (.ref 47), some (.int (nI i))] [.int (nI i), .ref 0] (hG σ sr ln Lc μ) rfl ?_
  refine am_sldR (k := i) rfl (rfl) (by omega) (by omega) ?_
  refine am_g 2 33 [some (.ref 0), some (.ref 14), some (.ref 47), some (.int (nI i))] [.int ((xs i) &&& 63)] (hG σ sr ln Lc μ) rfl ?_
  rw [hv]
  refine am_g 6 886 [some (.ref 0), some (.ref 14), some (.ref 47), some (.int (nI i))] [.int ((nI i) + 1), .ref 0, .ref 14] (hG σ sr ln Lc μ) rfl ?_
  refine am_sldR (k := (i + 1)) rfl (show ((nI i) + (nI 1)) = nI (i + 1) from by first | (simp only [nI_up, nI_mul2, nI_add]; done) | (simp only [nI_up, nI_mul2, nI_add]; exact congrArg nI (by omega))) (by omega) (by omega) ?_
  refine am_call (y := 110) (vs := [.ref 14, .int (xs (i + 1))]) (rest := []) (v := (some (.int x))) (h1 := (hG σ2 sr2 ln2 Lc2 μ)) rfl rfl rfl (h1) ?_
  refine am_g 5 895 [some (.ref 0), some (.ref 14), some (.ref 47), some (.int (nI i))] [.int ((nI i) + 1), .ref 0, .ref 47, .int x] (hG σ2 sr2 ln2 Lc2 μ) rfl ?_
  refine am_sldR (k := (i + 1)) rfl (show ((nI i) + (nI 1)) = nI (i + 1) from by first | (simp only [nI_up, nI_mul2, nI_add]; done) | (simp only [nI_up, nI_mul2, nI_add]; exact congrArg nI (by omega))) (by omega) (by omega) ?_
  refine am_call (y := 190) (vs := [.ref 47, .int (xs (i + 1))]) (rest := [.int x]) (v := (some (.int x))) (h1 := (hG σ2 sr2 ln2 Lc2 μ2)) rfl rfl rfl (h2) ?_
  refine am_g 1 (if x = x then 1277 else 902) [some (.ref 0), some (.ref 14), some (.ref 47), some (.int (nI i))] [] (hG σ2 sr2 ln2 Lc2 μ2) rfl ?_
  rw [if_pos (show x = x from rfl)]
  exact kk
set_option maxRecDepth 20000 in
theorem law_23 {x : Int32} {h' : am_H} (i : Nat) (hi : i + 6 ≤ LL) (hL : LL ≤ 3072) (hv : xs i &&& 63 = 23) (h1 : am_X xs LL 11 111 [.ref 14] (hG σ sr ln Lc μ) (some (.int x)) (hG σ2 sr2 ln2 Lc2 μ)) (h2 : am_X xs LL 11 191 [.ref 47] (hG σ2 sr2 ln2 Lc2 μ) (some (.int x)) (hG σ2 sr2 ln2 Lc2 μ2)) (kk : am_R xs LL cd_L_law (am_X xs LL 11) 1277 [some (.ref 0), some (.ref 14), some (.ref 47), some (.int (nI i))] [] (hG σ2 sr2 ln2 Lc2 μ2) (some (.int 1)) h') : am_R xs LL cd_L_law (am_X xs LL 11) 27 [some (.ref 0), some (.ref 14), some (.ref 47), some (.int (nI i))] [] (hG σ sr ln Lc μ) (some (.int 1)) h' := by
  refine am_g 2 29 [some (.ref 0), some (.ref 14), some (.ref 47), some (.int (nI i))] [.int (nI i), .ref 0] (hG σ sr ln Lc μ) rfl ?_
  refine am_sldR (k := i) rfl (rfl) (by omega) (by omega) ?_
  refine am_g 2 33 [some (.ref 0), some (.ref 14), some (.ref 47), some (.int (nI i))] [.int ((xs i) &&& 63)] (hG σ sr ln Lc μ) rfl ?_
  rw [hv]
  refine am_g 2 905 [some (.ref 0), some (.ref 14), some (.ref 47), some (.int (nI i))] [.ref 14] (hG σ sr ln Lc μ) rfl ?_
  refine am_call (y := 111) (vs := [.ref 14]) (rest := []) (v := (some (.int x))) (h1 := (hG σ2 sr2 ln2 Lc2 μ)) rfl rfl rfl (h1) ?_
  refine am_g 1 909 [some (.ref 0), some (.ref 14), some (.ref 47), some (.int (nI i))] [.ref 47, .int x] (hG σ2 sr2 ln2 Lc2 μ) rfl ?_
  refine am_call (y := 191) (vs := [.ref 47]) (rest := [.int x]) (v := (some (.int x))) (h1 := (hG σ2 sr2 ln2 Lc2 μ2)) rfl rfl rfl (h2) ?_
  refine am_g 1 (if x = x then 1277 else 915) [some (.ref 0), some (.ref 14), some (.ref 47), some (.int (nI i))] [] (hG σ2 sr2 ln2 Lc2 μ2) rfl ?_
  rw [if_pos (show x = x from rfl)]
  exact kk
set_option maxRecDepth 20000 in
theorem law_24 {x : Int32} {h' : am_H} (i : Nat) (hi : i + 6 ≤ LL) (hL : LL ≤ 3072) (hv : xs i &&& 63 = 24) (h1 : am_X xs LL 11 112 [.ref 14, .int (xs (i + 1))] (hG σ sr ln Lc μ) (some (.int x)) (hG σ2 sr2 ln2 Lc2 μ)) (h2 : am_X xs LL 11 195 [.ref 47, .int (xs (i + 1))] (hG σ2 sr2 ln2 Lc2 μ) (some (.int x)) (hG σ2 sr2 ln2 Lc2 μ2)) (kk : am_R xs LL cd_L_law (am_X xs LL 11) 1277 [some (.ref 0), some (.ref 14), some (.ref 47), some (.int (nI i))] [] (hG σ2 sr2 ln2 Lc2 μ2) (some (.int 1)) h') : am_R xs LL cd_L_law (am_X xs LL 11) 27 [some (.ref 0), some (.ref 14), some (.ref 47), some (.int (nI i))] [] (hG σ sr ln Lc μ) (some (.int 1)) h' := by
  refine am_g 2 29 [some (.ref 0), some (.ref 14), some (.ref 47), some (.int (nI i))] [.int (nI i), .ref 0] (hG σ sr ln Lc μ) rfl ?_
  refine am_sldR (k := i) rfl (rfl) (by omega) (by omega) ?_
  refine am_g 2 33 [some (.ref 0), some (.ref 14), some (.ref 47), some (.int (nI i))] [.int ((xs i) &&& 63)] (hG σ sr ln Lc μ) rfl ?_
  rw [hv]
  refine am_g 6 922 [some (.ref 0), some (.ref 14), some (.ref 47), some (.int (nI i))] [.int ((nI i) + 1), .ref 0, .ref 14] (hG σ sr ln Lc μ) rfl ?_
  refine am_sldR (k := (i + 1)) rfl (show ((nI i) + (nI 1)) = nI (i + 1) from by first | (simp only [nI_up, nI_mul2, nI_add]; done) | (simp only [nI_up, nI_mul2, nI_add]; exact congrArg nI (by omega))) (by omega) (by omega) ?_
  refine am_call (y := 112) (vs := [.ref 14, .int (xs (i + 1))]) (rest := []) (v := (some (.int x))) (h1 := (hG σ2 sr2 ln2 Lc2 μ)) rfl rfl rfl (h1) ?_
  refine am_g 5 931 [some (.ref 0), some (.ref 14), some (.ref 47), some (.int (nI i))] [.int ((nI i) + 1), .ref 0, .ref 47, .int x] (hG σ2 sr2 ln2 Lc2 μ) rfl ?_
  refine am_sldR (k := (i + 1)) rfl (show ((nI i) + (nI 1)) = nI (i + 1) from by first | (simp only [nI_up, nI_mul2, nI_add]; done) | (simp only [nI_up, nI_mul2, nI_add]; exact congrArg nI (by omega))) (by omega) (by omega) ?_
  refine am_call (y := 195) (vs := [.ref 47, .int (xs (i + 1))]) (rest := [.int x]) (v := (some (.int x))) (h1 := (hG σ2 sr2 ln2 Lc2 μ2)) rfl rfl rfl (h2) ?_
  refine am_g 1 (if x = x then 1277 else 938) [some (.ref 0), some (.ref 14), some (.ref 47), some (.int (nI i))] [] (hG σ2 sr2 ln2 Lc2 μ2) rfl ?_
  rw [if_pos (show x = x from rfl)]
  exact kk
set_option maxRecDepth 20000 in
theorem law_25 {x : Int32} {h' : am_H} (i : Nat) (hi : i + 6 ≤ LL) (hL : LL ≤ 3072) (hv : xs i &&& 63 = 25) (h1 : am_X xs LL 11 113 [.ref 14, .int (xs (i + 1)), .int (xs (i + 2))] (hG σ sr ln Lc μ) (some (.int x)) (hG σ2 sr2 ln2 Lc2 μ)) (h2 : am_X xs LL 11 198 [.ref 47, .int (xs (i + 1)), .int (xs (i + 2))] (hG σ2 sr2 ln2 Lc2 μ) (some (.int x)) (hG σ2 sr2 ln2 Lc2 μ2)) (kk : am_R xs LL cd_L_law (am_X xs LL 11) 1277 [some (.ref 0), some (.ref 14), some (.ref 47), some (.int (nI i))] [] (hG σ2 sr2 ln2 Lc2 μ2) (some (.int 1)) h') : am_R xs LL cd_L_law (am_X xs LL 11) 27 [some (.ref 0), some (.ref 14), some (.ref 47), some (.int (nI i))] [] (hG σ sr ln Lc μ) (some (.int 1)) h' := by
  refine am_g 2 29 [some (.ref 0), some (.ref 14), some (.ref 47), some (.int (nI i))] [.int (nI i), .ref 0] (hG σ sr ln Lc μ) rfl ?_
  refine am_sldR (k := i) rfl (rfl) (by omega) (by omega) ?_
  refine am_g 2 33 [some (.ref 0), some (.ref 14), some (.ref 47), some (.int (nI i))] [.int ((xs i) &&& 63)] (hG σ sr ln Lc μ) rfl ?_
  rw [hv]
  refine am_g 6 945 [some (.ref 0), some (.ref 14), some (.ref 47), some (.int (nI i))] [.int ((nI i) + 1), .ref 0, .ref 14] (hG σ sr ln Lc μ) rfl ?_
  refine am_sldR (k := (i + 1)) rfl (show ((nI i) + (nI 1)) = nI (i + 1) from by first | (simp only [nI_up, nI_mul2, nI_add]; done) | (simp only [nI_up, nI_mul2, nI_add]; exact congrArg nI (by omega))) (by omega) (by omega) ?_
  refine am_g 4 950 [some (.ref 0), some (.ref 14), some (.ref 47), some (.int (nI i))] [.int ((nI i) + 2), .ref 0, .int (xs (i + 1)), .ref 14] (hG σ sr ln Lc μ) rfl ?_
  refine am_sldR (k := (i + 2)) rfl (show ((nI i) + (nI 2)) = nI (i + 2) from by first | (simp only [nI_up, nI_mul2, nI_add]; done) | (simp only [nI_up, nI_mul2, nI_add]; exact congrArg nI (by omega))) (by omega) (by omega) ?_
  refine am_call (y := 113) (vs := [.ref 14, .int (xs (i + 1)), .int (xs (i + 2))]) (rest := []) (v := (some (.int x))) (h1 := (hG σ2 sr2 ln2 Lc2 μ)) rfl rfl rfl (h1) ?_
  refine am_g 5 959 [some (.ref 0), some (.ref 14), some (.ref 47), some (.int (nI i))] [.int ((nI i) + 1), .ref 0, .ref 47, .int x] (hG σ2 sr2 ln2 Lc2 μ) rfl ?_
  refine am_sldR (k := (i + 1)) rfl (show ((nI i) + (nI 1)) = nI (i + 1) from by first | (simp only [nI_up, nI_mul2, nI_add]; done) | (simp only [nI_up, nI_mul2, nI_add]; exact congrArg nI (by omega))) (by omega) (by omega) ?_
  refine am_g 4 964 [some (.ref 0), some (.ref 14), some (.ref 47), some (.int (nI i))] [.int ((nI i) + 2), .ref 0, .int (xs (i + 1)), .ref 47, .int x] (hG σ2 sr2 ln2 Lc2 μ) rfl ?_
  refine am_sldR (k := (i + 2)) rfl (show ((nI i) + (nI 2)) = nI (i + 2) from by first | (simp only [nI_up, nI_mul2, nI_add]; done) | (simp only [nI_up, nI_mul2, nI_add]; exact congrArg nI (by omega))) (by omega) (by omega) ?_
  refine am_call (y := 198) (vs := [.ref 47, .int (xs (i + 1)), .int (xs (i + 2))]) (rest := [.int x]) (v := (some (.int x))) (h1 := (hG σ2 sr2 ln2 Lc2 μ2)) rfl rfl rfl (h2) ?_
  refine am_g 1 (if x = x then 1277 else 971) [some (.ref 0), some (.ref 14), some (.ref 47), some (.int (nI i))] [] (hG σ2 sr2 ln2 Lc2 μ2) rfl ?_
  rw [if_pos (show x = x from rfl)]
  exact kk
set_option maxRecDepth 20000 in
theorem law_26 {x : Int32} {h' : am_H} (i : Nat) (hi : i + 6 ≤ LL) (hL : LL ≤ 3072) (hv : xs i &&& 63 = 26) (h1 : am_X xs LL 11 114 [.ref 14, .int (xs (i + 1))] (hG σ sr ln Lc μ) (some (.int x)) (hG σ2 sr2 ln2 Lc2 μ)) (h2 : am_X xs LL 11 199 [.ref 47, .int (xs (i + 1))] (hG σ2 sr2 ln2 Lc2 μ) (some (.int x)) (hG σ2 sr2 ln2 Lc2 μ2)) (kk : am_R xs LL cd_L_law (am_X xs LL 11) 1277 [some (.ref 0), some (.ref 14), some (.ref 47), some (.int (nI i))] [] (hG σ2 sr2 ln2 Lc2 μ2) (some (.int 1)) h') : am_R xs LL cd_L_law (am_X xs LL 11) 27 [some (.ref 0), some (.ref 14), some (.ref 47), some (.int (nI i))] [] (hG σ sr ln Lc μ) (some (.int 1)) h' := by
  refine am_g 2 29 [some (.ref 0), some (.ref 14), some (.ref 47), some (.int (nI i))] [.int (nI i), .ref 0] (hG σ sr ln Lc μ) rfl ?_
  refine am_sldR (k := i) rfl (rfl) (by omega) (by omega) ?_
  refine am_g 2 33 [some (.ref 0), some (.ref 14), some (.ref 47), some (.int (nI i))] [.int ((xs i) &&& 63)] (hG σ sr ln Lc μ) rfl ?_
  rw [hv]
  refine am_g 6 978 [some (.ref 0), some (.ref 14), some (.ref 47), some (.int (nI i))] [.int ((nI i) + 1), .ref 0, .ref 14] (hG σ sr ln Lc μ) rfl ?_
  refine am_sldR (k := (i + 1)) rfl (show ((nI i) + (nI 1)) = nI (i + 1) from by first | (simp only [nI_up, nI_mul2, nI_add]; done) | (simp only [nI_up, nI_mul2, nI_add]; exact congrArg nI (by omega))) (by omega) (by omega) ?_
  refine am_call (y := 114) (vs := [.ref 14, .int (xs (i + 1))]) (rest := []) (v := (some (.int x))) (h1 := (hG σ2 sr2 ln2 Lc2 μ)) rfl rfl rfl (h1) ?_
  refine am_g 5 987 [some (.ref 0), some (.ref 14), some (.ref 47), some (.int (nI i))] [.int ((nI i) + 1), .ref 0, .ref 47, .int x] (hG σ2 sr2 ln2 Lc2 μ) rfl ?_
  refine am_sldR (k := (i + 1)) rfl (show ((nI i) + (nI 1)) = nI (i + 1) from by first | (simp only [nI_up, nI_mul2, nI_add]; done) | (simp only [nI_up, nI_mul2, nI_add]; exact congrArg nI (by omega))) (by omega) (by omega) ?_
  refine am_call (y := 199) (vs := [.ref 47, .int (xs (i + 1))]) (rest := [.int x]) (v := (some (.int x))) (h1 := (hG σ2 sr2 ln2 Lc2 μ2)) rfl rfl rfl (h2) ?_
  refine am_g 1 (if x = x then 1277 else 994) [some (.ref 0), some (.ref 14), some (.ref 47), some (.int (nI i))] [] (hG σ2 sr2 ln2 Lc2 μ2) rfl ?_
  rw [if_pos (show x = x from rfl)]
  exact kk
set_option maxRecDepth 20000 in
theorem law_27 {x : Int32} {h' : am_H} (i : Nat) (hi : i + 6 ≤ LL) (hL : LL ≤ 3072) (hv : xs i &&& 63 = 27) (h1 : am_X xs LL 11 115 [.ref 14, .int (xs (i + 1))] (hG σ sr ln Lc μ) (some (.int x)) (hG σ2 sr2 ln2 Lc2 μ)) (h2 : am_X xs LL 11 200 [.ref 47, .int (xs (i + 1))] (hG σ2 sr2 ln2 Lc2 μ) (some (.int x)) (hG σ2 sr2 ln2 Lc2 μ2)) (kk : am_R xs LL cd_L_law (am_X xs LL 11) 1277 [some (.ref 0), some (.ref 14), some (.ref 47), some (.int (nI i))] [] (hG σ2 sr2 ln2 Lc2 μ2) (some (.int 1)) h') : am_R xs LL cd_L_law (am_X xs LL 11) 27 [some (.ref 0), some (.ref 14), some (.ref 47), some (.int (nI i))] [] (hG σ sr ln Lc μ) (some (.int 1)) h' := by
  refine am_g 2 29 [some (.ref 0), some (.ref 14), some (.ref 47), some (.int (nI i))] [.int (nI i), .ref 0] (hG σ sr ln Lc μ) rfl ?_
  refine am_sldR (k := i) rfl (rfl) (by omega) (by omega) ?_
  refine am_g 2 33 [some (.ref 0), some (.ref 14), some (.ref 47), some (.int (nI i))] [.int ((xs i) &&& 63)] (hG σ sr ln Lc μ) rfl ?_
  rw [hv]
  refine am_g 6 1001 [some (.ref 0), some (.ref 14), some (.ref 47), some (.int (nI i))] [.int ((nI i) + 1), .ref 0, .ref 14] (hG σ sr ln Lc μ) rfl ?_
  refine am_sldR (k := (i + 1)) rfl (show ((nI i) + (nI 1)) = nI (i + 1) from by first | (simp only [nI_up, nI_mul2, nI_add]; done) | (simp only [nI_up, nI_mul2, nI_add]; exact congrArg nI (by omega))) (by omega) (by omega) ?_
  refine am_call (y := 115) (vs := [.ref 14, .int (xs (i + 1))]) (rest := []) (v := (some (.int x))) (h1 := (hG σ2 sr2 ln2 Lc2 μ)) rfl rfl rfl (h1) ?_
  refine am_g 5 1010 [some (.ref 0), some (.ref 14), some (.ref 47), some (.int (nI i))] [.int ((nI i) + 1), .ref 0, .ref 47, .int x] (hG σ2 sr2 ln2 Lc2 μ) rfl ?_
  refine am_sldR (k := (i + 1)) rfl (show ((nI i) + (nI 1)) = nI (i + 1) from by first | (simp only [nI_up, nI_mul2, nI_add]; done) | (simp only [nI_up, nI_mul2, nI_add]; exact congrArg nI (by omega))) (by omega) (by omega) ?_
  refine am_call (y := 200) (vs := [.ref 47, .int (xs (i + 1))]) (rest := [.int x]) (v := (some (.int x))) (h1 := (hG σ2 sr2 ln2 Lc2 μ2)) rfl rfl rfl (h2) ?_
  refine am_g 1 (if x = x then 1277 else 1017) [some (.ref 0), some (.ref 14), some (.ref 47), some (.int (nI i))] [] (hG σ2 sr2 ln2 Lc2 μ2) rfl ?_
  rw [if_pos (show x = x from rfl)]
  exact kk
set_option maxRecDepth 20000 in
theorem law_28 {x : Int32} {h' : am_H} (i : Nat) (hi : i + 6 ≤ LL) (hL : LL ≤ 3072) (hv : xs i &&& 63 = 28) (h1 : am_X xs LL 11 116 [.ref 14, .int (xs (i + 1))] (hG σ sr ln Lc μ) (some (.int x)) (hG σ2 sr2 ln2 Lc2 μ)) (h2 : am_X xs LL 11 201 [.ref 47, .int (xs (i + 1))] (hG σ2 sr2 ln2 Lc2 μ) (some (.int x)) (hG σ2 sr2 ln2 Lc2 μ2)) (kk : am_R xs LL cd_L_law (am_X xs LL 11) 1277 [some (.ref 0), some (.ref 14), some (.ref 47), some (.int (nI i))] [] (hG σ2 sr2 ln2 Lc2 μ2) (some (.int 1)) h') : am_R xs LL cd_L_law (am_X xs LL 11) 27 [some (.ref 0), some (.ref 14), some (.ref 47), some (.int (nI i))] [] (hG σ sr ln Lc μ) (some (.int 1)) h' := by
  refine am_g 2 29 [some (.ref 0), some (.ref 14), some (.ref 47), some (.int (nI i))] [.int (nI i), .ref 0] (hG σ sr ln Lc μ) rfl ?_
  refine am_sldR (k := i) rfl (rfl) (by omega) (by omega) ?_
  refine am_g 2 33 [some (.ref 0), some (.ref 14), some (.ref 47), some (.int (nI i))] [.int ((xs i) &&& 63)] (hG σ sr ln Lc μ) rfl ?_
  rw [hv]
  refine am_g 6 1024 [some (.ref 0), some (.ref 14), some (.ref 47), some (.int (nI i))] [.int ((nI i) + 1), .ref 0, .ref 14] (hG σ sr ln Lc μ) rfl ?_
  refine am_sldR (k := (i + 1)) rfl (show ((nI i) + (nI 1)) = nI (i + 1) from by first | (simp only [nI_up, nI_mul2, nI_add]; done) | (simp only [nI_up, nI_mul2, nI_add]; exact congrArg nI (by omega))) (by omega) (by omega) ?_
  refine am_call (y := 116) (vs := [.ref 14, .int (xs (i + 1))]) (rest := []) (v := (some (.int x))) (h1 := (hG σ2 sr2 ln2 Lc2 μ)) rfl rfl rfl (h1) ?_
  refine am_g 5 1033 [some (.ref 0), some (.ref 14), some (.ref 47), some (.int (nI i))] [.int ((nI i) + 1), .ref 0, .ref 47, .int x] (hG σ2 sr2 ln2 Lc2 μ) rfl ?_
  refine am_sldR (k := (i + 1)) rfl (show ((nI i) + (nI 1)) = nI (i + 1) from by first | (simp only [nI_up, nI_mul2, nI_add]; done) | (simp only [nI_up, nI_mul2, nI_add]; exact congrArg nI (by omega))) (by omega) (by omega) ?_
  refine am_call (y := 201) (vs := [.ref 47, .int (xs (i + 1))]) (rest := [.int x]) (v := (some (.int x))) (h1 := (hG σ2 sr2 ln2 Lc2 μ2)) rfl rfl rfl (h2) ?_
  refine am_g 1 (if x = x then 1277 else 1040) [some (.ref 0), some (.ref 14), some (.ref 47), some (.int (nI i))] [] (hG σ2 sr2 ln2 Lc2 μ2) rfl ?_
  rw [if_pos (show x = x from rfl)]
  exact kk
set_option maxRecDepth 20000 in
theorem law_29 {x : Int32} {h' : am_H} (i : Nat) (hi : i + 6 ≤ LL) (hL : LL ≤ 3072) (hv : xs i &&& 63 = 29) (h1 : am_X xs LL 11 117 [.ref 14, .int (xs (i + 1)), .int (xs (i + 2)), .int (xs (i + 3))] (hG σ sr ln Lc μ) (some (.int x)) (hG σ2 sr2 ln2 Lc2 μ)) (h2 : am_X xs LL 11 203 [.ref 47, .int (xs (i + 1)), .int (xs (i + 2)), .int (xs (i + 3))] (hG σ2 sr2 ln2 Lc2 μ) (some (.int x)) (hG σ2 sr2 ln2 Lc2 μ2)) (kk : am_R xs LL cd_L_law (am_X xs LL 11) 1277 [some (.ref 0), some (.ref 14), some (.ref 47), some (.int (nI i))] [] (hG σ2 sr2 ln2 Lc2 μ2) (some (.int 1)) h') : am_R xs LL cd_L_law (am_X xs LL 11) 27 [some (.ref 0), some (.ref 14), some (.ref 47), some (.int (nI i))] [] (hG σ sr ln Lc μ) (some (.int 1)) h' := by
  refine am_g 2 29 [some (.ref 0), some (.ref 14), some (.ref 47), some (.int (nI i))] [.int (nI i), .ref 0] (hG σ sr ln Lc μ) rfl ?_
  refine am_sldR (k := i) rfl (rfl) (by omega) (by omega) ?_
  refine am_g 2 33 [some (.ref 0), some (.ref 14), some (.ref 47), some (.int (nI i))] [.int ((xs i) &&& 63)] (hG σ sr ln Lc μ) rfl ?_
  rw [hv]
  refine am_g 6 1047 [some (.ref 0), some (.ref 14), some (.ref 47), some (.int (nI i))] [.int ((nI i) + 1), .ref 0, .ref 14] (hG σ sr ln Lc μ) rfl ?_
  refine am_sldR (k := (i + 1)) rfl (show ((nI i) + (nI 1)) = nI (i + 1) from by first | (simp only [nI_up, nI_mul2, nI_add]; done) | (simp only [nI_up, nI_mul2, nI_add]; exact congrArg nI (by omega))) (by omega) (by omega) ?_
  refine am_g 4 1052 [some (.ref 0), some (.ref 14), some (.ref 47), some (.int (nI i))] [.int ((nI i) + 2), .ref 0, .int (xs (i + 1)), .ref 14] (hG σ sr ln Lc μ) rfl ?_
  refine am_sldR (k := (i + 2)) rfl (show ((nI i) + (nI 2)) = nI (i + 2) from by first | (simp only [nI_up, nI_mul2, nI_add]; done) | (simp only [nI_up, nI_mul2, nI_add]; exact congrArg nI (by omega))) (by omega) (by omega) ?_
  refine am_g 4 1057 [some (.ref 0), some (.ref 14), some (.ref 47), some (.int (nI i))] [.int ((nI i) + 3), .ref 0, .int (xs (i + 2)), .int (xs (i + 1)), .ref 14] (hG σ sr ln Lc μ) rfl ?_
  refine am_sldR (k := (i + 3)) rfl (show ((nI i) + (nI 3)) = nI (i + 3) from by first | (simp only [nI_up, nI_mul2, nI_add]; done) | (simp only [nI_up, nI_mul2, nI_add]; exact congrArg nI (by omega))) (by omega) (by omega) ?_
  refine am_call (y := 117) (vs := [.ref 14, .int (xs (i + 1)), .int (xs (i + 2)), .int (xs (i + 3))]) (rest := []) (v := (some (.int x))) (h1 := (hG σ2 sr2 ln2 Lc2 μ)) rfl rfl rfl (h1) ?_
  refine am_g 5 1066 [some (.ref 0), some (.ref 14), some (.ref 47), some (.int (nI i))] [.int ((nI i) + 1), .ref 0, .ref 47, .int x] (hG σ2 sr2 ln2 Lc2 μ) rfl ?_
  refine am_sldR (k := (i + 1)) rfl (show ((nI i) + (nI 1)) = nI (i + 1) from by first | (simp only [nI_up, nI_mul2, nI_add]; done) | (simp only [nI_up, nI_mul2, nI_add]; exact congrArg nI (by omega))) (by omega) (by omega) ?_
  refine am_g 4 1071 [some (.ref 0), some (.ref 14), some (.ref 47), some (.int (nI i))] [.int ((nI i) + 2), .ref 0, .int (xs (i + 1)), .ref 47, .int x] (hG σ2 sr2 ln2 Lc2 μ) rfl ?_
  refine am_sldR (k := (i + 2)) rfl (show ((nI i) + (nI 2)) = nI (i + 2) from by first | (simp only [nI_up, nI_mul2, nI_add]; done) | (simp only [nI_up, nI_mul2, nI_add]; exact congrArg nI (by omega))) (by omega) (by omega) ?_
  refine am_g 4 1076 [some (.ref 0), some (.ref 14), some (.ref 47), some (.int (nI i))] [.int ((nI i) + 3), .ref 0, .int (xs (i + 2)), .int (xs (i + 1)), .ref 47, .int x] (hG σ2 sr2 ln2 Lc2 μ) rfl ?_
  refine am_sldR (k := (i + 3)) rfl (show ((nI i) + (nI 3)) = nI (i + 3) from by first | (simp only [nI_up, nI_mul2, nI_add]; done) | (simp only [nI_up, nI_mul2, nI_add]; exact congrArg nI (by omega))) (by omega) (by omega) ?_
  refine am_call (y := 203) (vs := [.ref 47, .int (xs (i + 1)), .int (xs (i + 2)), .int (xs (i + 3))]) (rest := [.int x]) (v := (some (.int x))) (h1 := (hG σ2 sr2 ln2 Lc2 μ2)) rfl rfl rfl (h2) ?_
  refine am_g 1 (if x = x then 1277 else 1083) [some (.ref 0), some (.ref 14), some (.ref 47), some (.int (nI i))] [] (hG σ2 sr2 ln2 Lc2 μ2) rfl ?_
  rw [if_pos (show x = x from rfl)]
  exact kk
set_option maxRecDepth 20000 in
theorem law_30 {x : Int32} {h' : am_H} (i : Nat) (hi : i + 6 ≤ LL) (hL : LL ≤ 3072) (hv : xs i &&& 63 = 30) (h1 : am_X xs LL 11 118 [.ref 14, .int (xs (i + 1)), .int (xs (i + 2)), .int (xs (i + 3))] (hG σ sr ln Lc μ) (some (.int x)) (hG σ2 sr2 ln2 Lc2 μ)) (h2 : am_X xs LL 11 204 [.ref 47, .int (xs (i + 1)), .int (xs (i + 2)), .int (xs (i + 3))] (hG σ2 sr2 ln2 Lc2 μ) (some (.int x)) (hG σ2 sr2 ln2 Lc2 μ2)) (kk : am_R xs LL cd_L_law (am_X xs LL 11) 1277 [some (.ref 0), some (.ref 14), some (.ref 47), some (.int (nI i))] [] (hG σ2 sr2 ln2 Lc2 μ2) (some (.int 1)) h') : am_R xs LL cd_L_law (am_X xs LL 11) 27 [some (.ref 0), some (.ref 14), some (.ref 47), some (.int (nI i))] [] (hG σ sr ln Lc μ) (some (.int 1)) h' := by
  refine am_g 2 29 [some (.ref 0), some (.ref 14), some (.ref 47), some (.int (nI i))] [.int (nI i), .ref 0] (hG σ sr ln Lc μ) rfl ?_
  refine am_sldR (k := i) rfl (rfl) (by omega) (by omega) ?_
  refine am_g 2 33 [some (.ref 0), some (.ref 14), some (.ref 47), some (.int (nI i))] [.int ((xs i) &&& 63)] (hG σ sr ln Lc μ) rfl ?_
  rw [hv]
  refine am_g 6 1090 [some (.ref 0), some (.ref 14), some (.ref 47), some (.int (nI i))] [.int ((nI i) + 1), .ref 0, .ref 14] (hG σ sr ln Lc μ) rfl ?_
  refine am_sldR (k := (i + 1)) rfl (show ((nI i) + (nI 1)) = nI (i + 1) from by first | (simp only [nI_up, nI_mul2, nI_add]; done) | (simp only [nI_up, nI_mul2, nI_add]; exact congrArg nI (by omega))) (by omega) (by omega) ?_
  refine am_g 4 1095 [some (.ref 0), some (.ref 14), some (.ref 47), some (.int (nI i))] [.int ((nI i) + 2), .ref 0, .int (xs (i + 1)), .ref 14] (hG σ sr ln Lc μ) rfl ?_
  refine am_sldR (k := (i + 2)) rfl (show ((nI i) + (nI 2)) = nI (i + 2) from by first | (simp only [nI_up, nI_mul2, nI_add]; done) | (simp only [nI_up, nI_mul2, nI_add]; exact congrArg nI (by omega))) (by omega) (by omega) ?_
  refine am_g 4 1100 [some (.ref 0), some (.ref 14), some (.ref 47), some (.int (nI i))] [.int ((nI i) + 3), .ref 0, .int (xs (i + 2)), .int (xs (i + 1)), .ref 14] (hG σ sr ln Lc μ) rfl ?_
  refine am_sldR (k := (i + 3)) rfl (show ((nI i) + (nI 3)) = nI (i + 3) from by first | (simp only [nI_up, nI_mul2, nI_add]; done) | (simp only [nI_up, nI_mul2, nI_add]; exact congrArg nI (by omega))) (by omega) (by omega) ?_
  refine am_call (y := 118) (vs := [.ref 14, .int (xs (i + 1)), .int (xs (i + 2)), .int (xs (i + 3))]) (rest := []) (v := (some (.int x))) (h1 := (hG σ2 sr2 ln2 Lc2 μ)) rfl rfl rfl (h1) ?_
  refine am_g 5 1109 [some (.ref 0), some (.ref 14), some (.ref 47), some (.int (nI i))] [.int ((nI i) + 1), .ref 0, .ref 47, .int x] (hG σ2 sr2 ln2 Lc2 μ) rfl ?_
  refine am_sldR (k := (i + 1)) rfl (show ((nI i) + (nI 1)) = nI (i + 1) from by first | (simp only [nI_up, nI_mul2, nI_add]; done) | (simp only [nI_up, nI_mul2, nI_add]; exact congrArg nI (by omega))) (by omega) (by omega) ?_
  refine am_g 4 1114 [some (.ref 0), some (.ref 14), some (.ref 47), some (.int (nI i))] [.int ((nI i) + 2), .ref 0, .int (xs (i + 1)), .ref 47, .int x] (hG σ2 sr2 ln2 Lc2 μ) rfl ?_
  refine am_sldR (k := (i + 2)) rfl (show ((nI i) + (nI 2)) = nI (i + 2) from by first | (simp only [nI_up, nI_mul2, nI_add]; done) | (simp only [nI_up, nI_mul2, nI_add]; exact congrArg nI (by omega))) (by omega) (by omega) ?_
  refine am_g 4 1119 [some (.ref 0), some (.ref 14), some (.ref 47), some (.int (nI i))] [.int ((nI i) + 3), .ref 0, .int (xs (i + 2)), .int (xs (i + 1)), .ref 47, .int x] (hG σ2 sr2 ln2 Lc2 μ) rfl ?_
  refine am_sldR (k := (i + 3)) rfl (show ((nI i) + (nI 3)) = nI (i + 3) from by first | (simp only [nI_up, nI_mul2, nI_add]; done) | (simp only [nI_up, nI_mul2, nI_add]; exact congrArg nI (by omega))) (by omega) (by omega) ?_
  refine am_call (y := 204) (vs := [.ref 47, .int (xs (i + 1)), .int (xs (i + 2)), .int (xs (i + 3))]) (rest := [.int x]) (v := (some (.int x))) (h1 := (hG σ2 sr2 ln2 Lc2 μ2)) rfl rfl rfl (h2) ?_
  refine am_g 1 (if x = x then 1277 else 1126) [some (.ref 0), some (.ref 14), some (.ref 47), some (.int (nI i))] [] (hG σ2 sr2 ln2 Lc2 μ2) rfl ?_
  rw [if_pos (show x = x from rfl)]
  exact kk
set_option maxRecDepth 20000 in
theorem law_31 {x : Int32} {h' : am_H} (i : Nat) (hi : i + 6 ≤ LL) (hL : LL ≤ 3072) (hv : xs i &&& 63 = 31) (h1 : am_X xs LL 11 119 [.ref 14, .int (xs (i + 1)), .int (xs (i + 2)), .int (xs (i + 3)), .int (xs (i + 4)), .int (xs (i + 5))] (hG σ sr ln Lc μ) (some (.int x)) (hG σ2 sr2 ln2 Lc2 μ)) (h2 : am_X xs LL 11 205 [.ref 47, .int (xs (i + 1)), .int (xs (i + 2)), .int (xs (i + 3)), .int (xs (i + 4)), .int (xs (i + 5))] (hG σ2 sr2 ln2 Lc2 μ) (some (.int x)) (hG σ2 sr2 ln2 Lc2 μ2)) (kk : am_R xs LL cd_L_law (am_X xs LL 11) 1277 [some (.ref 0), some (.ref 14), some (.ref 47), some (.int (nI i))] [] (hG σ2 sr2 ln2 Lc2 μ2) (some (.int 1)) h') : am_R xs LL cd_L_law (am_X xs LL 11) 27 [some (.ref 0), some (.ref 14), some (.ref 47), some (.int (nI i))] [] (hG σ sr ln Lc μ) (some (.int 1)) h' := by
  refine am_g 2 29 [some (.ref 0), some (.ref 14), some (.ref 47), some (.int (nI i))] [.int (nI i), .ref 0] (hG σ sr ln Lc μ) rfl ?_
  refine am_sldR (k := i) rfl (rfl) (by omega) (by omega) ?_
  refine am_g 2 33 [some (.ref 0), some (.ref 14), some (.ref 47), some (.int (nI i))] [.int ((xs i) &&& 63)] (hG σ sr ln Lc μ) rfl ?_
  rw [hv]
  refine am_g 6 1133 [some (.ref 0), some (.ref 14), some (.ref 47), some (.int (nI i))] [.int ((nI i) + 1), .ref 0, .ref 14] (hG σ sr ln Lc μ) rfl ?_
  refine am_sldR (k := (i + 1)) rfl (show ((nI i) + (nI 1)) = nI (i + 1) from by first | (simp only [nI_up, nI_mul2, nI_add]; done) | (simp only [nI_up, nI_mul2, nI_add]; exact congrArg nI (by omega))) (by omega) (by omega) ?_
  refine am_g 4 1138 [some (.ref 0), some (.ref 14), some (.ref 47), some (.int (nI i))] [.int ((nI i) + 2), .ref 0, .int (xs (i + 1)), .ref 14] (hG σ sr ln Lc μ) rfl ?_
  refine am_sldR (k := (i + 2)) rfl (show ((nI i) + (nI 2)) = nI (i + 2) from by first | (simp only [nI_up, nI_mul2, nI_add]; done) | (simp only [nI_up, nI_mul2, nI_add]; exact congrArg nI (by omega))) (by omega) (by omega) ?_
  refine am_g 4 1143 [some (.ref 0), some (.ref 14), some (.ref 47), some (.int (nI i))] [.int ((nI i) + 3), .ref 0, .int (xs (i + 2)), .int (xs (i + 1)), .ref 14] (hG σ sr ln Lc μ) rfl ?_
  refine am_sldR (k := (i + 3)) rfl (show ((nI i) + (nI 3)) = nI (i + 3) from by first | (simp only [nI_up, nI_mul2, nI_add]; done) | (simp only [nI_up, nI_mul2, nI_add]; exact congrArg nI (by omega))) (by omega) (by omega) ?_
  refine am_g 4 1148 [some (.ref 0), some (.ref 14), some (.ref 47), some (.int (nI i))] [.int ((nI i) + 4), .ref 0, .int (xs (i + 3)), .int (xs (i + 2)), .int (xs (i + 1)), .ref 14] (hG σ sr ln Lc μ) rfl ?_
  refine am_sldR (k := (i + 4)) rfl (show ((nI i) + (nI 4)) = nI (i + 4) from by first | (simp only [nI_up, nI_mul2, nI_add]; done) | (simp only [nI_up, nI_mul2, nI_add]; exact congrArg nI (by omega))) (by omega) (by omega) ?_
  refine am_g 4 1153 [some (.ref 0), some (.ref 14), some (.ref 47), some (.int (nI i))] [.int ((nI i) + 5), .ref 0, .int (xs (i + 4)), .int (xs (i + 3)), .int (xs (i + 2)), .int (xs (i + 1)), .ref 14] (hG σ sr ln Lc μ) rfl ?_
  refine am_sldR (k := (i + 5)) rfl (show ((nI i) + (nI 5)) = nI (i + 5) from by first | (simp only [nI_up, nI_mul2, nI_add]; done) | (simp only [nI_up, nI_mul2, nI_add]; exact congrArg nI (by omega))) (by omega) (by omega) ?_
  refine am_call (y := 119) (vs := [.ref 14, .int (xs (i + 1)), .int (xs (i + 2)), .int (xs (i + 3)), .int (xs (i + 4)), .int (xs (i + 5))]) (rest := []) (v := (some (.int x))) (h1 := (hG σ2 sr2 ln2 Lc2 μ)) rfl rfl rfl (h1) ?_
  refine am_g 5 1162 [some (.ref 0), some (.ref 14), some (.ref 47), some (.int (nI i))] [.int ((nI i) + 1), .ref 0, .ref 47, .int x] (hG σ2 sr2 ln2 Lc2 μ) rfl ?_
  refine am_sldR (k := (i + 1)) rfl (show ((nI i) + (nI 1)) = nI (i + 1) from by first | (simp only [nI_up, nI_mul2, nI_add]; done) | (simp only [nI_up, nI_mul2, nI_add]; exact congrArg nI (by omega))) (by omega) (by omega) ?_
  refine am_g 4 1167 [some (.ref 0), some (.ref 14), some (.ref 47), some (.int (nI i))] [.int ((nI i) + 2), .ref 0, .int (xs (i + 1)), .ref 47, .int x] (hG σ2 sr2 ln2 Lc2 μ) rfl ?_
  refine am_sldR (k := (i + 2)) rfl (show ((nI i) + (nI 2)) = nI (i + 2) from by first | (simp only [nI_up, nI_mul2, nI_add]; done) | (simp only [nI_up, nI_mul2, nI_add]; exact congrArg nI (by omega))) (by omega) (by omega) ?_
  refine am_g 4 1172 [some (.ref 0), some (.ref 14), some (.ref 47), some (.int (nI i))] [.int ((nI i) + 3), .ref 0, .int (xs (i + 2)), .int (xs (i + 1)), .ref 47, .int x] (hG σ2 sr2 ln2 Lc2 μ) rfl ?_
  refine am_sldR (k := (i + 3)) rfl (show ((nI i) + (nI 3)) = nI (i + 3) from by first | (simp only [nI_up, nI_mul2, nI_add]; done) | (simp only [nI_up, nI_mul2, nI_add]; exact congrArg nI (by omega))) (by omega) (by omega) ?_
  refine am_g 4 1177 [some (.ref 0), some (.ref 14), some (.ref 47), some (.int (nI i))] [.int ((nI i) + 4), .ref 0, .int (xs (i + 3)), .int (xs (i + 2)), .int (xs (i + 1)), .ref 47, .int x] (hG σ2 sr2 ln2 Lc2 μ) rfl ?_
  refine am_sldR (k := (i + 4)) rfl (show ((nI i) + (nI 4)) = nI (i + 4) from by first | (simp only [nI_up, nI_mul2, nI_add]; done) | (simp only [nI_up, nI_mul2, nI_add]; exact congrArg nI (by omega))) (by omega) (by omega) ?_
  refine am_g 4 1182 [some (.ref 0), some (.ref 14), some (.ref 47), some (.int (nI i))] [.int ((nI i) + 5), .ref 0, .int (xs (i + 4)), .int (xs (i + 3)), .int (xs (i + 2)), .int (xs (i + 1)), .ref 47, .int x] (hG σ2 sr2 ln2 Lc2 μ) rfl ?_
  refine am_sldR (k := (i + 5)) rfl (show ((nI i) + (nI 5)) = nI (i + 5) from by first | (simp only [nI_up, nI_mul2, nI_add]; done) | (simp only [nI_up, nI_mul2, nI_add]; exact congrArg nI (by omega))) (by omega) (by omega) ?_
  refine am_call (y := 205) (vs := [.ref 47, .int (xs (i + 1)), .int (xs (i + 2)), .int (xs (i + 3)), .int (xs (i + 4)), .int (xs (i + 5))]) (rest := [.int x]) (v := (some (.int x))) (h1 := (hG σ2 sr2 ln2 Lc2 μ2)) rfl rfl rfl (h2) ?_
  refine am_g 1 (if x = x then 1277 else 1189) [some (.ref 0), some (.ref 14), some (.ref 47), some (.int (nI i))] [] (hG σ2 sr2 ln2 Lc2 μ2) rfl ?_
  rw [if_pos (show x = x from rfl)]
  exact kk
set_option maxRecDepth 20000 in
theorem law_32 {x : Int32} {h' : am_H} (i : Nat) (hi : i + 6 ≤ LL) (hL : LL ≤ 3072) (hv : xs i &&& 63 = 32) (h1 : am_X xs LL 11 120 [.ref 14, .int (xs (i + 1)), .int (xs (i + 2)), .int (xs (i + 3)), .int (xs (i + 4))] (hG σ sr ln Lc μ) (some (.int x)) (hG σ2 sr2 ln2 Lc2 μ)) (h2 : am_X xs LL 11 206 [.ref 47, .int (xs (i + 1)), .int (xs (i + 2)), .int (xs (i + 3)), .int (xs (i + 4))] (hG σ2 sr2 ln2 Lc2 μ) (some (.int x)) (hG σ2 sr2 ln2 Lc2 μ2)) (kk : am_R xs LL cd_L_law (am_X xs LL 11) 1277 [some (.ref 0), some (.ref 14), some (.ref 47), some (.int (nI i))] [] (hG σ2 sr2 ln2 Lc2 μ2) (some (.int 1)) h') : am_R xs LL cd_L_law (am_X xs LL 11) 27 [some (.ref 0), some (.ref 14), some (.ref 47), some (.int (nI i))] [] (hG σ sr ln Lc μ) (some (.int 1)) h' := by
  refine am_g 2 29 [some (.ref 0), some (.ref 14), some (.ref 47), some (.int (nI i))] [.int (nI i), .ref 0] (hG σ sr ln Lc μ) rfl ?_
  refine am_sldR (k := i) rfl (rfl) (by omega) (by omega) ?_
  refine am_g 2 33 [some (.ref 0), some (.ref 14), some (.ref 47), some (.int (nI i))] [.int ((xs i) &&& 63)] (hG σ sr ln Lc μ) rfl ?_
  rw [hv]
  refine am_g 6 1196 [some (.ref 0), some (.ref 14), some (.ref 47), some (.int (nI i))] [.int ((nI i) + 1), .ref 0, .ref 14] (hG σ sr ln Lc μ) rfl ?_
  refine am_sldR (k := (i + 1)) rfl (show ((nI i) + (nI 1)) = nI (i + 1) from by first | (simp only [nI_up, nI_mul2, nI_add]; done) | (simp only [nI_up, nI_mul2, nI_add]; exact congrArg nI (by omega))) (by omega) (by omega) ?_
  refine am_g 4 1201 [some (.ref 0), some (.ref 14), some (.ref 47), some (.int (nI i))] [.int ((nI i) + 2), .ref 0, .int (xs (i + 1)), .ref 14] (hG σ sr ln Lc μ) rfl ?_
  refine am_sldR (k := (i + 2)) rfl (show ((nI i) + (nI 2)) = nI (i + 2) from by first | (simp only [nI_up, nI_mul2, nI_add]; done) | (simp only [nI_up, nI_mul2, nI_add]; exact congrArg nI (by omega))) (by omega) (by omega) ?_
  refine am_g 4 1206 [some (.ref 0), some (.ref 14), some (.ref 47), some (.int (nI i))] [.int ((nI i) + 3), .ref 0, .int (xs (i + 2)), .int (xs (i + 1)), .ref 14] (hG σ sr ln Lc μ) rfl ?_
  refine am_sldR (k := (i + 3)) rfl (show ((nI i) + (nI 3)) = nI (i + 3) from by first | (simp only [nI_up, nI_mul2, nI_add]; done) | (simp only [nI_up, nI_mul2, nI_add]; exact congrArg nI (by omega))) (by omega) (by omega) ?_
  refine am_g 4 1211 [some (.ref 0), some (.ref 14), some (.ref 47), some (.int (nI i))] [.int ((nI i) + 4), .ref 0, .int (xs (i + 3)), .int (xs (i + 2)), .int (xs (i + 1)), .ref 14] (hG σ sr ln Lc μ) rfl ?_
  refine am_sldR (k := (i + 4)) rfl (show ((nI i) + (nI 4)) = nI (i + 4) from by first | (simp only [nI_up, nI_mul2, nI_add]; done) | (simp only [nI_up, nI_mul2, nI_add]; exact congrArg nI (by omega))) (by omega) (by omega) ?_
  refine am_call (y := 120) (vs := [.ref 14, .int (xs (i + 1)), .int (xs (i + 2)), .int (xs (i + 3)), .int (xs (i + 4))]) (rest := []) (v := (some (.int x))) (h1 := (hG σ2 sr2 ln2 Lc2 μ)) rfl rfl rfl (h1) ?_
  refine am_g 5 1220 [some (.ref 0), some (.ref 14), some (.ref 47), some (.int (nI i))] [.int ((nI i) + 1), .ref 0, .ref 47, .int x] (hG σ2 sr2 ln2 Lc2 μ) rfl ?_
  refine am_sldR (k := (i + 1)) rfl (show ((nI i) + (nI 1)) = nI (i + 1) from by first | (simp only [nI_up, nI_mul2, nI_add]; done) | (simp only [nI_up, nI_mul2, nI_add]; exact congrArg nI (by omega))) (by omega) (by omega) ?_
  refine am_g 4 1225 [some (.ref 0), some (.ref 14), some (.ref 47), some (.int (nI i))] [.int ((nI i) + 2), .ref 0, .int (xs (i + 1)), .ref 47, .int x] (hG σ2 sr2 ln2 Lc2 μ) rfl ?_
  refine am_sldR (k := (i + 2)) rfl (show ((nI i) + (nI 2)) = nI (i + 2) from by first | (simp only [nI_up, nI_mul2, nI_add]; done) | (simp only [nI_up, nI_mul2, nI_add]; exact congrArg nI (by omega))) (by omega) (by omega) ?_
  refine am_g 4 1230 [some (.ref 0), some (.ref 14), some (.ref 47), some (.int (nI i))] [.int ((nI i) + 3), .ref 0, .int (xs (i + 2)), .int (xs (i + 1)), .ref 47, .int x] (hG σ2 sr2 ln2 Lc2 μ) rfl ?_
  refine am_sldR (k := (i + 3)) rfl (show ((nI i) + (nI 3)) = nI (i + 3) from by first | (simp only [nI_up, nI_mul2, nI_add]; done) | (simp only [nI_up, nI_mul2, nI_add]; exact congrArg nI (by omega))) (by omega) (by omega) ?_
  refine am_g 4 1235 [some (.ref 0), some (.ref 14), some (.ref 47), some (.int (nI i))] [.int ((nI i) + 4), .ref 0, .int (xs (i + 3)), .int (xs (i + 2)), .int (xs (i + 1)), .ref 47, .int x] (hG σ2 sr2 ln2 Lc2 μ) rfl ?_
  refine am_sldR (k := (i + 4)) rfl (show ((nI i) + (nI 4)) = nI (i + 4) from by first | (simp only [nI_up, nI_mul2, nI_add]; done) | (simp only [nI_up, nI_mul2, nI_add]; exact congrArg nI (by omega))) (by omega) (by omega) ?_
  refine am_call (y := 206) (vs := [.ref 47, .int (xs (i + 1)), .int (xs (i + 2)), .int (xs (i + 3)), .int (xs (i + 4))]) (rest := [.int x]) (v := (some (.int x))) (h1 := (hG σ2 sr2 ln2 Lc2 μ2)) rfl rfl rfl (h2) ?_
  refine am_g 1 (if x = x then 1277 else 1242) [some (.ref 0), some (.ref 14), some (.ref 47), some (.int (nI i))] [] (hG σ2 sr2 ln2 Lc2 μ2) rfl ?_
  rw [if_pos (show x = x from rfl)]
  exact kk
set_option maxRecDepth 20000 in
theorem law_33 {x : Int32} {h' : am_H} (i : Nat) (hi : i + 6 ≤ LL) (hL : LL ≤ 3072) (hv : xs i &&& 63 = 33) (h1 : am_X xs LL 11 121 [.ref 14, .int (xs (i + 1)), .int (xs (i + 2))] (hG σ sr ln Lc μ) (some (.int x)) (hG σ2 sr2 ln2 Lc2 μ)) (h2 : am_X xs LL 11 208 [.ref 47, .int (xs (i + 1)), .int (xs (i + 2))] (hG σ2 sr2 ln2 Lc2 μ) (some (.int x)) (hG σ2 sr2 ln2 Lc2 μ2)) (kk : am_R xs LL cd_L_law (am_X xs LL 11) 1277 [some (.ref 0), some (.ref 14), some (.ref 47), some (.int (nI i))] [] (hG σ2 sr2 ln2 Lc2 μ2) (some (.int 1)) h') : am_R xs LL cd_L_law (am_X xs LL 11) 27 [some (.ref 0), some (.ref 14), some (.ref 47), some (.int (nI i))] [] (hG σ sr ln Lc μ) (some (.int 1)) h' := by
  refine am_g 2 29 [some (.ref 0), some (.ref 14), some (.ref 47), some (.int (nI i))] [.int (nI i), .ref 0] (hG σ sr ln Lc μ) rfl ?_
  refine am_sldR (k := i) rfl (rfl) (by omega) (by omega) ?_
  refine am_g 2 33 [some (.ref 0), some (.ref 14), some (.ref 47), some (.int (nI i))] [.int ((xs i) &&& 63)] (hG σ sr ln Lc μ) rfl ?_
  rw [hv]
  refine am_g 6 1249 [some (.ref 0), some (.ref 14), some (.ref 47), some (.int (nI i))] [.int ((nI i) + 1), .ref 0, .ref 14] (hG σ sr ln Lc μ) rfl ?_
  refine am_sldR (k := (i + 1)) rfl (show ((nI i) + (nI 1)) = nI (i + 1) from by first | (simp only [nI_up, nI_mul2, nI_add]; done) | (simp only [nI_up, nI_mul2, nI_add]; exact congrArg nI (by omega))) (by omega) (by omega) ?_
  refine am_g 4 1254 [some (.ref 0), some (.ref 14), some (.ref 47), some (.int (nI i))] [.int ((nI i) + 2), .ref 0, .int (xs (i + 1)), .ref 14] (hG σ sr ln Lc μ) rfl ?_
  refine am_sldR (k := (i + 2)) rfl (show ((nI i) + (nI 2)) = nI (i + 2) from by first | (simp only [nI_up, nI_mul2, nI_add]; done) | (simp only [nI_up, nI_mul2, nI_add]; exact congrArg nI (by omega))) (by omega) (by omega) ?_
  refine am_call (y := 121) (vs := [.ref 14, .int (xs (i + 1)), .int (xs (i + 2))]) (rest := []) (v := (some (.int x))) (h1 := (hG σ2 sr2 ln2 Lc2 μ)) rfl rfl rfl (h1) ?_
  refine am_g 5 1263 [some (.ref 0), some (.ref 14), some (.ref 47), some (.int (nI i))] [.int ((nI i) + 1), .ref 0, .ref 47, .int x] (hG σ2 sr2 ln2 Lc2 μ) rfl ?_
  refine am_sldR (k := (i + 1)) rfl (show ((nI i) + (nI 1)) = nI (i + 1) from by first | (simp only [nI_up, nI_mul2, nI_add]; done) | (simp only [nI_up, nI_mul2, nI_add]; exact congrArg nI (by omega))) (by omega) (by omega) ?_
  refine am_g 4 1268 [some (.ref 0), some (.ref 14), some (.ref 47), some (.int (nI i))] [.int ((nI i) + 2), .ref 0, .int (xs (i + 1)), .ref 47, .int x] (hG σ2 sr2 ln2 Lc2 μ) rfl ?_
  refine am_sldR (k := (i + 2)) rfl (show ((nI i) + (nI 2)) = nI (i + 2) from by first | (simp only [nI_up, nI_mul2, nI_add]; done) | (simp only [nI_up, nI_mul2, nI_add]; exact congrArg nI (by omega))) (by omega) (by omega) ?_
  refine am_call (y := 208) (vs := [.ref 47, .int (xs (i + 1)), .int (xs (i + 2))]) (rest := [.int x]) (v := (some (.int x))) (h1 := (hG σ2 sr2 ln2 Lc2 μ2)) rfl rfl rfl (h2) ?_
  refine am_g 1 (if x = x then 1277 else 1275) [some (.ref 0), some (.ref 14), some (.ref 47), some (.int (nI i))] [] (hG σ2 sr2 ln2 Lc2 μ2) rfl ?_
  rw [if_pos (show x = x from rfl)]
  exact kk
set_option maxRecDepth 20000 in
theorem law_no {h' : am_H} (i : Nat) (hi : i + 6 ≤ LL) (hL : LL ≤ 3072) {k : Nat} (hk : 34 ≤ k) (hk2 : k < 64) (hv : xs i &&& 63 = nI k) (kk : am_R xs LL cd_L_law (am_X xs LL 11) 1277 [some (.ref 0), some (.ref 14), some (.ref 47), some (.int (nI i))] [] (hG σ sr ln Lc μ) (some (.int 1)) h') : am_R xs LL cd_L_law (am_X xs LL 11) 27 [some (.ref 0), some (.ref 14), some (.ref 47), some (.int (nI i))] [] (hG σ sr ln Lc μ) (some (.int 1)) h' := by
  refine am_g 2 29 [some (.ref 0), some (.ref 14), some (.ref 47), some (.int (nI i))] [.int (nI i), .ref 0] (hG σ sr ln Lc μ) rfl ?_
  refine am_sldR (k := i) rfl rfl (by omega) (by omega) ?_
  refine am_g 2 33 [some (.ref 0), some (.ref 14), some (.ref 47), some (.int (nI i))] [.int (xs i &&& 63)] (hG σ sr ln Lc μ) rfl ?_
  rw [hv]
  refine am_tswD rfl (Or.inr (by rw [nI_toInt (by omega)]; omega)) ?_
  exact kk
end LW
