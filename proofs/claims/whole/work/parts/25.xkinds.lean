/-! the class: kinds -/
section XK
variable {xs : Nat → Int32} {LL : Nat} {σ μ : Nat → Nat → Int32} {sr : Nat → Nat} {ln : Nat → Nat → Int32} {Lc : Nat}
theorem sp_X3_isTold (d : Nat) {K : Nat} (hK : σ 5 0 = nI K) (hK8 : K ≤ 8) (n : Int32) {b : Bool} (eb : am_in n K = b) : am_X xs LL (d + 1) 21 [.ref 15, .int n] (hG σ sr ln Lc μ) (some (.int (am_b2 b))) (hG σ sr ln Lc μ) := by
  refine am_XR (d := d + 0) (C := cd_X3_isTold) (L := [some (.ref 15), some (.int n)]) rfl rfl rfl rfl ?_
  refine am_g 2 (if n < 0 then 16 else 4) [some (.ref 15), some (.int n)] [] (hG σ sr ln Lc μ) rfl (am_brR (fun c1 => ?_) (fun c1 => ?_))
  · skip
    refine am_g 1 17 [some (.ref 15), some (.int n)] [.int 0] (hG σ sr ln Lc μ) rfl ?_
    exact am_ret2 rfl rfl rfl (by rw [← eb, am_inF1 c1]; rfl) rfl
  · skip
    refine am_g 4 (if (σ 5 0) ≤ n then 16 else 12) [some (.ref 15), some (.int n)] [] (hG σ sr ln Lc μ) rfl (am_brR (fun c2 => ?_) (fun c2 => ?_))
    · skip
      refine am_g 1 17 [some (.ref 15), some (.int n)] [.int 0] (hG σ sr ln Lc μ) rfl ?_
      exact am_ret2 rfl rfl rfl (by rw [← eb, am_inF2 hK c2 (by omega)]; rfl) rfl
    · skip
      refine am_g 2 17 [some (.ref 15), some (.int n)] [.int 1] (hG σ sr ln Lc μ) rfl ?_
      exact am_ret2 rfl rfl rfl (by rw [← eb, am_inT c1 hK c2 (by omega)]; rfl) rfl
theorem sp_X3_isObject (d : Nat) {O : Nat} (hO : σ 6 0 = nI O) (hO16 : O ≤ 16) (n : Int32) {b : Bool} (eb : am_in n O = b) : am_X xs LL (d + 1) 31 [.ref 15, .int n] (hG σ sr ln Lc μ) (some (.int (am_b2 b))) (hG σ sr ln Lc μ) := by
  refine am_XR (d := d + 0) (C := cd_X3_isObject) (L := [some (.ref 15), some (.int n)]) rfl rfl rfl rfl ?_
  refine am_g 2 (if n < 0 then 16 else 4) [some (.ref 15), some (.int n)] [] (hG σ sr ln Lc μ) rfl (am_brR (fun c1 => ?_) (fun c1 => ?_))
  · skip
    refine am_g 1 17 [some (.ref 15), some (.int n)] [.int 0] (hG σ sr ln Lc μ) rfl ?_
    exact am_ret2 rfl rfl rfl (by rw [← eb, am_inF1 c1]; rfl) rfl
  · skip
    refine am_g 4 (if (σ 6 0) ≤ n then 16 else 12) [some (.ref 15), some (.int n)] [] (hG σ sr ln Lc μ) rfl (am_brR (fun c2 => ?_) (fun c2 => ?_))
    · skip
      refine am_g 1 17 [some (.ref 15), some (.int n)] [.int 0] (hG σ sr ln Lc μ) rfl ?_
      exact am_ret2 rfl rfl rfl (by rw [← eb, am_inF2 hO c2 (by omega)]; rfl) rfl
    · skip
      refine am_g 2 17 [some (.ref 15), some (.int n)] [.int 1] (hG σ sr ln Lc μ) rfl ?_
      exact am_ret2 rfl rfl rfl (by rw [← eb, am_inT c1 hO c2 (by omega)]; rfl) rfl
theorem sp_X3_isFull_y (d : Nat) {K : Nat} (hK : σ 5 0 = nI K) (hK8 : K ≤ 8) (h8 : K = 8) : am_X xs LL (d + 1) 22 [.ref 15] (hG σ sr ln Lc μ) (some (.int 1)) (hG σ sr ln Lc μ) := by
  refine am_XR (d := d + 0) (C := cd_X3_isFull) (L := [some (.ref 15)]) rfl rfl rfl rfl ?_
  refine am_g 3 (if (σ 5 0) < 0 then 19 else 7) [some (.ref 15)] [] (hG σ sr ln Lc μ) rfl ?_
  rw [if_neg (show ¬ (σ 5 0) < 0 from (am_dnlt (a := K) (b := 0) (hK) (rfl) (by omega) (by omega) (by omega)))]
  refine am_g 6 (if (σ 5 0) < 8 then 23 else 19) [some (.ref 15)] [] (hG σ sr ln Lc μ) rfl ?_
  rw [if_neg (show ¬ (σ 5 0) < 8 from (am_dnlt (a := K) (b := 8) (hK) (rfl) (by omega) (by omega) (by omega)))]
  refine am_g 2 24 [some (.ref 15)] [.int 1] (hG σ sr ln Lc μ) rfl ?_
  exact am_ret2 rfl rfl rfl rfl rfl
theorem sp_X3_isFull_n (d : Nat) {K : Nat} (hK : σ 5 0 = nI K) (hK8 : K ≤ 8) (h8 : K < 8) : am_X xs LL (d + 1) 22 [.ref 15] (hG σ sr ln Lc μ) (some (.int 0)) (hG σ sr ln Lc μ) := by
  refine am_XR (d := d + 0) (C := cd_X3_isFull) (L := [some (.ref 15)]) rfl rfl rfl rfl ?_
  refine am_g 3 (if (σ 5 0) < 0 then 19 else 7) [some (.ref 15)] [] (hG σ sr ln Lc μ) rfl ?_
  rw [if_neg (show ¬ (σ 5 0) < 0 from (am_dnlt (a := K) (b := 0) (hK) (rfl) (by omega) (by omega) (by omega)))]
  refine am_g 6 (if (σ 5 0) < 8 then 23 else 19) [some (.ref 15)] [] (hG σ sr ln Lc μ) rfl ?_
  rw [if_pos (show (σ 5 0) < 8 from (am_dlt (a := K) (b := 8) (hK) (rfl) (by omega) (by omega) (by omega)))]
  refine am_g 1 24 [some (.ref 15)] [.int 0] (hG σ sr ln Lc μ) rfl ?_
  exact am_ret2 rfl rfl rfl rfl rfl
theorem sp_X3_tell (d : Nat) {K : Nat} (hK : σ 5 0 = nI K) (hK8 : K ≤ 8) (h8 : K < 8) (o : Int32) : am_X xs LL (d + 2) 23 [.ref 15, .int o] (hG σ sr ln Lc μ) (some (.int (σ 5 0))) (hG (am_us (am_up σ 1 (upd (σ 1) K o)) 5 ((σ 5 0) + 1)) sr ln Lc μ) := by
  refine am_XR (d := d + 1) (C := cd_X3_tell) (L := [some (.ref 15), some (.int o)]) rfl rfl rfl rfl ?_
  refine am_g 1 1 [some (.ref 15), some (.int o)] [.ref 15] (hG σ sr ln Lc μ) rfl ?_
  refine am_call (y := 22) (vs := [.ref 15]) (rest := []) (v := (some (.int 0))) (h1 := (hG σ sr ln Lc μ)) rfl rfl rfl (sp_X3_isFull_n (σ := σ) (μ := μ) d hK hK8 h8) ?_
  refine am_g 6 19 [some (.ref 15), some (.int o)] [.int o, .int (σ 5 0), .ref 16] (hG σ sr ln Lc μ) rfl ?_
  refine am_iastR (n := 8) (f := (σ 1)) (k := K) (h1 := (hG (am_up σ 1 (upd (σ 1) K o)) sr ln Lc μ)) rfl rfl (hK) (by omega) (by decide) rfl ?_
  refine am_g 7 31 [some (.ref 15), some (.int o)] [.int (σ 5 0)] (hG (am_us (am_up σ 1 (upd (σ 1) K o)) 5 ((σ 5 0) + 1)) sr ln Lc μ) rfl ?_
  exact am_ret2 rfl rfl rfl rfl rfl
theorem sp_X11_forgetSets (d : Nat)  : am_X xs LL (d + 1) 131 [.ref 14] (hG σ sr ln Lc μ) none (hG (am_us (am_us σ 10 0) 20 0) sr ln Lc μ) := by
  refine am_XR (d := d + 0) (C := cd_X11_forgetSets) (L := [some (.ref 14)]) rfl rfl rfl rfl ?_
  refine am_g 8 16 [some (.ref 14)] [] (hG (am_us (am_us σ 10 0) 20 0) sr ln Lc μ) rfl ?_
  exact am_ret2 rfl rfl rfl rfl rfl
theorem sp_X11_kind_bad (d : Nat) {K : Nat} (hK : σ 5 0 = nI K) (hK8 : K ≤ 8) (o : Int32) (h1 : ¬ o = -1) (h2 : am_in o K = false) : am_X xs LL (d + 3) 88 [.ref 14, .int o] (hG σ sr ln Lc μ) (some (.int (-2))) (hG σ sr ln Lc μ) := by
  refine am_XR (d := d + 2) (C := cd_X11_kind) (L := [some (.ref 14), some (.int o)]) rfl rfl rfl rfl ?_
  refine am_g 3 (if o = (-1) then 19 else 5) [some (.ref 14), some (.int o)] [] (hG σ sr ln Lc μ) rfl ?_
  rw [if_neg (show ¬ o = (-1) from h1)]
  refine am_g 3 10 [some (.ref 14), some (.int o)] [.int o, .ref 15] (hG σ sr ln Lc μ) rfl ?_
  refine am_call (y := 21) (vs := [.ref 15, .int o]) (rest := []) (v := (some (.int 0))) (h1 := (hG σ sr ln Lc μ)) rfl rfl rfl (sp_X3_isTold (σ := σ) (μ := μ) (d + 1) hK hK8 _ h2) ?_
  refine am_g 2 18 [some (.ref 14), some (.int o)] [.int (-2)] (hG σ sr ln Lc μ) rfl ?_
  exact am_ret2 rfl rfl rfl rfl rfl
theorem sp_X11_kind_full (d : Nat) {K : Nat} (hK : σ 5 0 = nI K) (hK8 : K ≤ 8) (o : Int32) (ho : o = -1 ∨ am_in o K = true) (h8 : K = 8) : am_X xs LL (d + 3) 88 [.ref 14, .int o] (hG σ sr ln Lc μ) (some (.int (-4))) (hG σ sr ln Lc μ) := by
  refine am_XR (d := d + 2) (C := cd_X11_kind) (L := [some (.ref 14), some (.int o)]) rfl rfl rfl rfl ?_
  by_cases hm : o = -1
  · skip
    refine am_g 3 (if o = (-1) then 19 else 5) [some (.ref 14), some (.int o)] [] (hG σ sr ln Lc μ) rfl ?_
    rw [if_pos (show o = (-1) from hm)]
    refine am_g 2 23 [some (.ref 14), some (.int o)] [.ref 15] (hG σ sr ln Lc μ) rfl ?_
    refine am_call (y := 22) (vs := [.ref 15]) (rest := []) (v := (some (.int 1))) (h1 := (hG σ sr ln Lc μ)) rfl rfl rfl (sp_X3_isFull_y (σ := σ) (μ := μ) (d + 1) hK hK8 h8) ?_
    refine am_g 2 31 [some (.ref 14), some (.int o)] [.int (-4)] (hG σ sr ln Lc μ) rfl ?_
    exact am_ret2 rfl rfl rfl rfl rfl
  · have h2 := ho.resolve_left hm
    refine am_g 3 (if o = (-1) then 19 else 5) [some (.ref 14), some (.int o)] [] (hG σ sr ln Lc μ) rfl ?_
    rw [if_neg (show ¬ o = (-1) from hm)]
    refine am_g 3 10 [some (.ref 14), some (.int o)] [.int o, .ref 15] (hG σ sr ln Lc μ) rfl ?_
    refine am_call (y := 21) (vs := [.ref 15, .int o]) (rest := []) (v := (some (.int 1))) (h1 := (hG σ sr ln Lc μ)) rfl rfl rfl (sp_X3_isTold (σ := σ) (μ := μ) (d + 1) hK hK8 _ h2) ?_
    refine am_g 3 23 [some (.ref 14), some (.int o)] [.ref 15] (hG σ sr ln Lc μ) rfl ?_
    refine am_call (y := 22) (vs := [.ref 15]) (rest := []) (v := (some (.int 1))) (h1 := (hG σ sr ln Lc μ)) rfl rfl rfl (sp_X3_isFull_y (σ := σ) (μ := μ) (d + 1) hK hK8 h8) ?_
    refine am_g 2 31 [some (.ref 14), some (.int o)] [.int (-4)] (hG σ sr ln Lc μ) rfl ?_
    exact am_ret2 rfl rfl rfl rfl rfl
theorem sp_X11_kind_ok (d : Nat) {K : Nat} (hK : σ 5 0 = nI K) (hK8 : K ≤ 8) (o : Int32) (ho : o = -1 ∨ am_in o K = true) (h8 : K < 8) : am_X xs LL (d + 3) 88 [.ref 14, .int o] (hG σ sr ln Lc μ) (some (.int (σ 5 0))) (hG (am_us (am_up (am_us (am_us σ 10 0) 20 0) 1 (upd (σ 1) K o)) 5 ((σ 5 0) + 1)) sr ln Lc μ) := by
  refine am_XR (d := d + 2) (C := cd_X11_kind) (L := [some (.ref 14), some (.int o)]) rfl rfl rfl rfl ?_
  by_cases hm : o = -1
  · skip
    refine am_g 3 (if o = (-1) then 19 else 5) [some (.ref 14), some (.int o)] [] (hG σ sr ln Lc μ) rfl ?_
    rw [if_pos (show o = (-1) from hm)]
    refine am_g 2 23 [some (.ref 14), some (.int o)] [.ref 15] (hG σ sr ln Lc μ) rfl ?_
    refine am_call (y := 22) (vs := [.ref 15]) (rest := []) (v := (some (.int 0))) (h1 := (hG σ sr ln Lc μ)) rfl rfl rfl (sp_X3_isFull_n (σ := σ) (μ := μ) (d + 1) hK hK8 h8) ?_
    refine am_g 2 33 [some (.ref 14), some (.int o)] [.ref 14] (hG σ sr ln Lc μ) rfl ?_
    refine am_call (y := 131) (vs := [.ref 14]) (rest := []) (v := none) (h1 := (hG (am_us (am_us σ 10 0) 20 0) sr ln Lc μ)) rfl rfl rfl (sp_X11_forgetSets (σ := σ) (μ := μ) (d + 1)) ?_
    refine am_g 3 41 [some (.ref 14), some (.int o)] [.int o, .ref 15] (hG (am_us (am_us σ 10 0) 20 0) sr ln Lc μ) rfl ?_
    refine am_call (y := 23) (vs := [.ref 15, .int o]) (rest := []) (v := (some (.int (σ 5 0)))) (h1 := (hG (am_us (am_up (am_us (am_us σ 10 0) 20 0) 1 (upd (σ 1) K o)) 5 ((σ 5 0) + 1)) sr ln Lc μ)) rfl rfl rfl (sp_X3_tell (σ := (am_us (am_us σ 10 0) 20 0)) (μ := μ) d hK hK8 h8 _) ?_
    exact am_ret2 rfl rfl rfl rfl rfl
  · have h2 := ho.resolve_left hm
    refine am_g 3 (if o = (-1) then 19 else 5) [some (.ref 14), some (.int o)] [] (hG σ sr ln Lc μ) rfl ?_
    rw [if_neg (show ¬ o = (-1) from hm)]
    refine am_g 3 10 [some (.ref 14), some (.int o)] [.int o, .ref 15] (hG σ sr ln Lc μ) rfl ?_
    refine am_call (y := 21) (vs := [.ref 15, .int o]) (rest := []) (v := (some (.int 1))) (h1 := (hG σ sr ln Lc μ)) rfl rfl rfl (sp_X3_isTold (σ := σ) (μ := μ) (d + 1) hK hK8 _ h2) ?_
    refine am_g 3 23 [some (.ref 14), some (.int o)] [.ref 15] (hG σ sr ln Lc μ) rfl ?_
    refine am_call (y := 22) (vs := [.ref 15]) (rest := []) (v := (some (.int 0))) (h1 := (hG σ sr ln Lc μ)) rfl rfl rfl (sp_X3_isFull_n (σ := σ) (μ := μ) (d + 1) hK hK8 h8) ?_
    refine am_g 2 33 [some (.ref 14), some (.int o)] [.ref 14] (hG σ sr ln Lc μ) rfl ?_
    refine am_call (y := 131) (vs := [.ref 14]) (rest := []) (v := none) (h1 := (hG (am_us (am_us σ 10 0) 20 0) sr ln Lc μ)) rfl rfl rfl (sp_X11_forgetSets (σ := σ) (μ := μ) (d + 1)) ?_
    refine am_g 3 41 [some (.ref 14), some (.int o)] [.int o, .ref 15] (hG (am_us (am_us σ 10 0) 20 0) sr ln Lc μ) rfl ?_
    refine am_call (y := 23) (vs := [.ref 15, .int o]) (rest := []) (v := (some (.int (σ 5 0)))) (h1 := (hG (am_us (am_up (am_us (am_us σ 10 0) 20 0) 1 (upd (σ 1) K o)) 5 ((σ 5 0) + 1)) sr ln Lc μ)) rfl rfl rfl (sp_X3_tell (σ := (am_us (am_us σ 10 0) 20 0)) (μ := μ) d hK hK8 h8 _) ?_
    exact am_ret2 rfl rfl rfl rfl rfl
theorem sp_X3_setOwn (d : Nat) (k a : Nat) (fn : Int32) (hk : k < 8) (ha : a < 3) : am_X xs LL (d + 1) 24 [.ref 15, .int (nI k), .int (nI a), .int fn] (hG σ sr ln Lc μ) (some (.int (σ 2 (3 * k + a)))) (hG (am_up σ 2 (upd (σ 2) (3 * k + a) fn)) sr ln Lc μ) := by
  refine am_XR (d := d + 0) (C := cd_X3_setOwn) (L := [some (.ref 15), some (.int (nI k)), some (.int (nI a)), some (.int fn), none, none]) rfl rfl rfl rfl ?_
  refine am_g 8 (if (nI k) < 0 then 35 else 11) [some (.ref 15), some (.int (nI k)), some (.int (nI a)), some (.int fn), some (.int (((nI k) * 3) + (nI a))), none] [] (hG σ sr ln Lc μ) rfl ?_
  rw [if_neg (show ¬ (nI k) < 0 from (am_dnlt (a := k) (b := 0) (rfl) (rfl) (by omega) (by omega) (by omega)))]
  refine am_g 2 (if (nI a) < 0 then 35 else 15) [some (.ref 15), some (.int (nI k)), some (.int (nI a)), some (.int fn), some (.int (((nI k) * 3) + (nI a))), none] [] (hG σ sr ln Lc μ) rfl ?_
  rw [if_neg (show ¬ (nI a) < 0 from (am_dnlt (a := a) (b := 0) (rfl) (rfl) (by omega) (by omega) (by omega)))]
  refine am_g 3 (if 3 ≤ (nI a) then 35 else 20) [some (.ref 15), some (.int (nI k)), some (.int (nI a)), some (.int fn), some (.int (((nI k) * 3) + (nI a))), none] [] (hG σ sr ln Lc μ) rfl ?_
  rw [if_neg (show ¬ 3 ≤ (nI a) from (am_dnle (a := 3) (b := a) (rfl) (rfl) (by omega) (by omega) (by omega)))]
  refine am_g 2 (if (((nI k) * 3) + (nI a)) < 0 then 35 else 25) [some (.ref 15), some (.int (nI k)), some (.int (nI a)), some (.int fn), some (.int (((nI k) * 3) + (nI a))), none] [] (hG σ sr ln Lc μ) rfl ?_
  rw [if_neg (show ¬ (((nI k) * 3) + (nI a)) < 0 from (am_dnlt (a := ((3 * k) + a)) (b := 0) (show (((nI k) * (nI 3)) + (nI a)) = nI ((3 * k) + a) from by first | (simp only [nI_mul2, nI_add]; done) | (simp only [nI_mul2, nI_add]; exact congrArg nI (by omega))) (rfl) (by omega) (by omega) (by omega)))]
  refine am_g 5 (if (((nI k) * 3) + (nI a)) < 24 then 37 else 35) [some (.ref 15), some (.int (nI k)), some (.int (nI a)), some (.int fn), some (.int (((nI k) * 3) + (nI a))), none] [] (hG σ sr ln Lc μ) rfl ?_
  rw [if_pos (show (((nI k) * 3) + (nI a)) < 24 from (am_dlt (a := ((3 * k) + a)) (b := 24) (show (((nI k) * (nI 3)) + (nI a)) = nI ((3 * k) + a) from by first | (simp only [nI_mul2, nI_add]; done) | (simp only [nI_mul2, nI_add]; exact congrArg nI (by omega))) (rfl) (by omega) (by omega) (by omega)))]
  refine am_g 3 43 [some (.ref 15), some (.int (nI k)), some (.int (nI a)), some (.int fn), some (.int (((nI k) * 3) + (nI a))), none] [.int (((nI k) * 3) + (nI a)), .ref 17] (hG σ sr ln Lc μ) rfl ?_
  refine am_ialdR (n := 24) (f := (σ 2)) (k := ((3 * k) + a)) rfl rfl (show (((nI k) * (nI 3)) + (nI a)) = nI ((3 * k) + a) from by first | (simp only [nI_mul2, nI_add]; done) | (simp only [nI_mul2, nI_add]; exact congrArg nI (by omega))) (by omega) (by decide) ?_
  refine am_g 5 53 [some (.ref 15), some (.int (nI k)), some (.int (nI a)), some (.int fn), some (.int (((nI k) * 3) + (nI a))), some (.int (σ 2 ((3 * k) + a)))] [.int fn, .int (((nI k) * 3) + (nI a)), .ref 17] (hG σ sr ln Lc μ) rfl ?_
  refine am_iastR (n := 24) (f := (σ 2)) (k := ((3 * k) + a)) (h1 := (hG (am_up σ 2 (upd (σ 2) ((3 * k) + a) fn)) sr ln Lc μ)) rfl rfl (show (((nI k) * (nI 3)) + (nI a)) = nI ((3 * k) + a) from by first | (simp only [nI_mul2, nI_add]; done) | (simp only [nI_mul2, nI_add]; exact congrArg nI (by omega))) (by omega) (by decide) rfl ?_
  refine am_g 1 56 [some (.ref 15), some (.int (nI k)), some (.int (nI a)), some (.int fn), some (.int (((nI k) * 3) + (nI a))), some (.int (σ 2 ((3 * k) + a)))] [.int (σ 2 ((3 * k) + a))] (hG (am_up σ 2 (upd (σ 2) ((3 * k) + a) fn)) sr ln Lc μ) rfl ?_
  exact am_ret2 rfl rfl rfl rfl rfl
theorem sp_X11_has_ok (d : Nat) {K : Nat} (hK : σ 5 0 = nI K) (hK8 : K ≤ 8) (k a : Nat) (fn : Int32) (hk : k < K) (ha : a < 3) (hf : am_in1 fn 6 = true) : am_X xs LL (d + 3) 89 [.ref 14, .int (nI k), .int (nI a), .int fn] (hG σ sr ln Lc μ) (some (.int (σ 2 (3 * k + a)))) (hG (am_up (am_us (am_us σ 10 0) 20 0) 2 (upd (σ 2) (3 * k + a) fn)) sr ln Lc μ) := by
  refine am_XR (d := d + 2) (C := cd_X11_has) (L := [some (.ref 14), some (.int (nI k)), some (.int (nI a)), some (.int fn)]) rfl rfl rfl rfl ?_
  refine am_g 3 5 [some (.ref 14), some (.int (nI k)), some (.int (nI a)), some (.int fn)] [.int (nI k), .ref 15] (hG σ sr ln Lc μ) rfl ?_
  refine am_call (y := 21) (vs := [.ref 15, .int (nI k)]) (rest := []) (v := (some (.int 1))) (h1 := (hG σ sr ln Lc μ)) rfl rfl rfl (sp_X3_isTold (σ := σ) (μ := μ) (d + 1) hK hK8 _ (am_in_of_nI hk (by omega))) ?_
  refine am_g 4 14 [some (.ref 14), some (.int (nI k)), some (.int (nI a)), some (.int fn)] [.int 2, .int 0, .int (nI a)] (hG σ sr ln Lc μ) rfl ?_
  refine am_call (y := 122) (vs := [.int (nI a), .int 0, .int 2]) (rest := []) (v := (some (.int 1))) (h1 := (hG σ sr ln Lc μ)) rfl rfl rfl (sp_X11_isWithin_b (d + 1) _ _ _ _ ((am_wi (by decide)).trans (am_in_of_nI ha (by omega)))) ?_
  refine am_g 4 23 [some (.ref 14), some (.int (nI k)), some (.int (nI a)), some (.int fn)] [.int 5, .int (-1), .int fn] (hG σ sr ln Lc μ) rfl ?_
  refine am_call (y := 122) (vs := [.int fn, .int (-1), .int 5]) (rest := []) (v := (some (.int 1))) (h1 := (hG σ sr ln Lc μ)) rfl rfl rfl (sp_X11_isWithin_b (d + 1) _ _ _ _ ((am_wi1 (by decide)).trans hf)) ?_
  refine am_g 2 33 [some (.ref 14), some (.int (nI k)), some (.int (nI a)), some (.int fn)] [.ref 14] (hG σ sr ln Lc μ) rfl ?_
  refine am_call (y := 131) (vs := [.ref 14]) (rest := []) (v := none) (h1 := (hG (am_us (am_us σ 10 0) 20 0) sr ln Lc μ)) rfl rfl rfl (sp_X11_forgetSets (σ := σ) (μ := μ) (d + 1)) ?_
  refine am_g 5 43 [some (.ref 14), some (.int (nI k)), some (.int (nI a)), some (.int fn)] [.int fn, .int (nI a), .int (nI k), .ref 15] (hG (am_us (am_us σ 10 0) 20 0) sr ln Lc μ) rfl ?_
  refine am_call (y := 24) (vs := [.ref 15, .int (nI k), .int (nI a), .int fn]) (rest := []) (v := (some (.int (σ 2 (3 * k + a))))) (h1 := (hG (am_up (am_us (am_us σ 10 0) 20 0) 2 (upd (σ 2) (3 * k + a) fn)) sr ln Lc μ)) rfl rfl rfl (sp_X3_setOwn (σ := (am_us (am_us σ 10 0) 20 0)) (μ := μ) (d + 1) k a _ (by omega) ha) ?_
  exact am_ret2 rfl rfl rfl rfl rfl
theorem sp_X11_has_bad (d : Nat) {K : Nat} (hK : σ 5 0 = nI K) (hK8 : K ≤ 8) (k a fn : Int32) (hbad : (am_in k K && (am_in a 3 && am_in1 fn 6)) = false) : am_X xs LL (d + 3) 89 [.ref 14, .int k, .int a, .int fn] (hG σ sr ln Lc μ) (some (.int (-5))) (hG σ sr ln Lc μ) := by
  refine am_XR (d := d + 2) (C := cd_X11_has) (L := [some (.ref 14), some (.int k), some (.int a), some (.int fn)]) rfl rfl rfl rfl ?_
  refine am_g 3 5 [some (.ref 14), some (.int k), some (.int a), some (.int fn)] [.int k, .ref 15] (hG σ sr ln Lc μ) rfl ?_
  cases e1 : am_in k K with
  | false =>
    refine am_call (y := 21) (vs := [.ref 15, .int k]) (rest := []) (v := (some (.int 0))) (h1 := (hG σ sr ln Lc μ)) rfl rfl rfl (sp_X3_isTold (σ := σ) (μ := μ) (d + 1) hK hK8 _ e1) ?_
    refine am_g 2 31 [some (.ref 14), some (.int k), some (.int a), some (.int fn)] [.int (-5)] (hG σ sr ln Lc μ) rfl ?_
    exact am_ret2 rfl rfl rfl rfl rfl
  | true =>
    refine am_call (y := 21) (vs := [.ref 15, .int k]) (rest := []) (v := (some (.int 1))) (h1 := (hG σ sr ln Lc μ)) rfl rfl rfl (sp_X3_isTold (σ := σ) (μ := μ) (d + 1) hK hK8 _ e1) ?_
    refine am_g 4 14 [some (.ref 14), some (.int k), some (.int a), some (.int fn)] [.int 2, .int 0, .int a] (hG σ sr ln Lc μ) rfl ?_
    cases e2 : decide (0 ≤ a ∧ a ≤ 2) with
    | false =>
      refine am_call (y := 122) (vs := [.int a, .int 0, .int 2]) (rest := []) (v := (some (.int 0))) (h1 := (hG σ sr ln Lc μ)) rfl rfl rfl (sp_X11_isWithin_b (d + 1) _ _ _ _ e2) ?_
      refine am_g 2 31 [some (.ref 14), some (.int k), some (.int a), some (.int fn)] [.int (-5)] (hG σ sr ln Lc μ) rfl ?_
      exact am_ret2 rfl rfl rfl rfl rfl
    | true =>
      refine am_call (y := 122) (vs := [.int a, .int 0, .int 2]) (rest := []) (v := (some (.int 1))) (h1 := (hG σ sr ln Lc μ)) rfl rfl rfl (sp_X11_isWithin_b (d + 1) _ _ _ _ e2) ?_
      refine am_g 4 23 [some (.ref 14), some (.int k), some (.int a), some (.int fn)] [.int 5, .int (-1), .int fn] (hG σ sr ln Lc μ) rfl ?_
      cases e3 : decide ((-1) ≤ fn ∧ fn ≤ 5) with
      | false =>
        refine am_call (y := 122) (vs := [.int fn, .int (-1), .int 5]) (rest := []) (v := (some (.int 0))) (h1 := (hG σ sr ln Lc μ)) rfl rfl rfl (sp_X11_isWithin_b (d + 1) _ _ _ _ e3) ?_
        refine am_g 2 31 [some (.ref 14), some (.int k), some (.int a), some (.int fn)] [.int (-5)] (hG σ sr ln Lc μ) rfl ?_
        exact am_ret2 rfl rfl rfl rfl rfl
      | true =>
        refine am_call (y := 122) (vs := [.int fn, .int (-1), .int 5]) (rest := []) (v := (some (.int 1))) (h1 := (hG σ sr ln Lc μ)) rfl rfl rfl (sp_X11_isWithin_b (d + 1) _ _ _ _ e3) ?_
        refine am_g 1 32 [some (.ref 14), some (.int k), some (.int a), some (.int fn)] [] (hG σ sr ln Lc μ) rfl ?_
        rw [am_wi (n := 3) (by decide)] at e2
        rw [am_wi1 (n := 6) (by decide)] at e3
        rw [e1, e2, e3] at hbad
        cases hbad
theorem sp_X3_aimOf (d : Nat) (hab : am_wab (σ 1)) (kk : Int32) (a : Nat) (hk : kk = -1 ∨ ∃ j, j < 8 ∧ kk = nI j) (ha : a < 3) : am_X xs LL (d + 1) 25 [.ref 15, .int kk, .int (nI a)] (hG σ sr ln Lc μ) (some (.int (am_aimF (σ 1) (σ 2) a 9 kk))) (hG σ sr ln Lc μ) := by
  refine am_XR (d := d + 0) (C := cd_X3_aimOf) (L := [some (.ref 15), some (.int kk), some (.int (nI a)), none, none, none]) rfl rfl rfl rfl ?_
  refine am_g 2 (if (nI a) < 0 then 9 else 4) [some (.ref 15), some (.int kk), some (.int (nI a)), none, none, none] [] (hG σ sr ln Lc μ) rfl ?_
  rw [if_neg (show ¬ (nI a) < 0 from (am_dnlt (a := a) (b := 0) (rfl) (rfl) (by omega) (by omega) (by omega)))]
  refine am_g 3 (if (nI a) < 3 then 11 else 9) [some (.ref 15), some (.int kk), some (.int (nI a)), none, none, none] [] (hG σ sr ln Lc μ) rfl ?_
  rw [if_pos (show (nI a) < 3 from (am_dlt (a := a) (b := 3) (rfl) (rfl) (by omega) (by omega) (by omega)))]
  refine am_g 4 16 [some (.ref 15), some (.int kk), some (.int (nI a)), some (.int kk), some (.int 0), none] [] (hG σ sr ln Lc μ) rfl ?_
  have lp : ∀ (f t : Nat) (k : Int32) (pl : Option Value), t ≤ 8 → (k = -1 ∨ ∃ j, j < f ∧ j + t < 8 ∧ k = nI j) → am_R xs LL cd_X3_aimOf (am_X xs LL (d + 0)) 16 [some (.ref 15), some (.int kk), some (.int (nI a)), some (.int k), some (.int (nI t)), pl] [] (hG σ sr ln Lc μ) (some (.int (am_aimF (σ 1) (σ 2) a f k))) (hG σ sr ln Lc μ) := by
    intro f
    induction f with
    | zero =>
      intro t k pl ht hk
      rcases hk with rfl | ⟨j, h1, -, -⟩
      · skip
        refine am_g 3 (if 8 ≤ (nI t) then 85 else 23) [some (.ref 15), some (.int kk), some (.int (nI a)), some (.int (-1)), some (.int (nI t)), pl] [] (hG σ sr ln Lc μ) rfl (am_brR (fun c1 => ?_) (fun c1 => ?_))
        · skip
          refine am_g 1 86 [some (.ref 15), some (.int kk), some (.int (nI a)), some (.int (-1)), some (.int (nI t)), pl] [.int (-1)] (hG σ sr ln Lc μ) rfl ?_
          exact am_ret2 rfl rfl rfl (by rw [am_aimF_no]) rfl
        · skip
          refine am_g 3 86 [some (.ref 15), some (.int kk), some (.int (nI a)), some (.int (-1)), some (.int (nI t)), pl] [.int (-1)] (hG σ sr ln Lc μ) rfl ?_
          exact am_ret2 rfl rfl rfl (by rw [am_aimF_no]) rfl
      · exact absurd h1 (Nat.not_lt_zero _)
    | succ f ih =>
      intro t k pl ht hk
      rcases hk with rfl | ⟨j, h1, h8, rfl⟩
      · skip
        refine am_g 3 (if 8 ≤ (nI t) then 85 else 23) [some (.ref 15), some (.int kk), some (.int (nI a)), some (.int (-1)), some (.int (nI t)), pl] [] (hG σ sr ln Lc μ) rfl (am_brR (fun c2 => ?_) (fun c2 => ?_))
        · skip
          refine am_g 1 86 [some (.ref 15), some (.int kk), some (.int (nI a)), some (.int (-1)), some (.int (nI t)), pl] [.int (-1)] (hG σ sr ln Lc μ) rfl ?_
          exact am_ret2 rfl rfl rfl (by rw [am_aimF_no]) rfl
        · skip
          refine am_g 3 86 [some (.ref 15), some (.int kk), some (.int (nI a)), some (.int (-1)), some (.int (nI t)), pl] [.int (-1)] (hG σ sr ln Lc μ) rfl ?_
          exact am_ret2 rfl rfl rfl (by rw [am_aimF_no]) rfl
      · skip
        refine am_g 3 (if 8 ≤ (nI t) then 85 else 23) [some (.ref 15), some (.int kk), some (.int (nI a)), some (.int (nI j)), some (.int (nI t)), pl] [] (hG σ sr ln Lc μ) rfl ?_
        rw [if_neg (show ¬ 8 ≤ (nI t) from (am_dnle (a := 8) (b := t) (rfl) (rfl) (by omega) (by omega) (by omega)))]
        refine am_g 2 (if (nI j) < 0 then 85 else 27) [some (.ref 15), some (.int kk), some (.int (nI a)), some (.int (nI j)), some (.int (nI t)), pl] [] (hG σ sr ln Lc μ) rfl ?_
        rw [if_neg (show ¬ (nI j) < 0 from (am_dnlt (a := j) (b := 0) (rfl) (rfl) (by omega) (by omega) (by omega)))]
        refine am_g 5 (if 8 ≤ (nI j) then 85 else 36) [some (.ref 15), some (.int kk), some (.int (nI a)), some (.int (nI j)), some (.int (nI t)), pl] [] (hG σ sr ln Lc μ) rfl ?_
        rw [if_neg (show ¬ 8 ≤ (nI j) from (am_dnle (a := 8) (b := j) (rfl) (rfl) (by omega) (by omega) (by omega)))]
        refine am_g 11 (if 24 ≤ (((nI j) * 3) + (nI a)) then 72 else 53) [some (.ref 15), some (.int kk), some (.int (nI a)), some (.int (nI j)), some (.int (nI t)), some (.int (((nI j) * 3) + (nI a)))] [] (hG σ sr ln Lc μ) rfl ?_
        rw [if_neg (show ¬ 24 ≤ (((nI j) * 3) + (nI a)) from (am_dnle (a := 24) (b := ((3 * j) + a)) (rfl) (show (((nI j) * (nI 3)) + (nI a)) = nI ((3 * j) + a) from by first | (simp only [nI_mul2, nI_add]; done) | (simp only [nI_mul2, nI_add]; exact congrArg nI (by omega))) (by omega) (by omega) (by omega)))]
        refine am_g 3 59 [some (.ref 15), some (.int kk), some (.int (nI a)), some (.int (nI j)), some (.int (nI t)), some (.int (((nI j) * 3) + (nI a)))] [.int (((nI j) * 3) + (nI a)), .ref 17] (hG σ sr ln Lc μ) rfl ?_
        refine am_ialdR (n := 24) (f := (σ 2)) (k := ((3 * j) + a)) rfl rfl (show (((nI j) * (nI 3)) + (nI a)) = nI ((3 * j) + a) from by first | (simp only [nI_mul2, nI_add]; done) | (simp only [nI_mul2, nI_add]; exact congrArg nI (by omega))) (by omega) (by decide) ?_
        refine am_g 2 (if (σ 2 ((3 * j) + a)) = (-1) then 72 else 64) [some (.ref 15), some (.int kk), some (.int (nI a)), some (.int (nI j)), some (.int (nI t)), some (.int (((nI j) * 3) + (nI a)))] [] (hG σ sr ln Lc μ) rfl (am_brR (fun c3 => ?_) (fun c3 => ?_))
        · skip
          refine am_g 3 77 [some (.ref 15), some (.int kk), some (.int (nI a)), some (.int (nI j)), some (.int (nI t)), some (.int (((nI j) * 3) + (nI a)))] [.int (nI j), .ref 16] (hG σ sr ln Lc μ) rfl ?_
          refine am_ialdR (n := 8) (f := (σ 1)) (k := j) rfl rfl (rfl) (by omega) (by decide) ?_
          refine am_g 3 16 [some (.ref 15), some (.int kk), some (.int (nI a)), some (.int (σ 1 j)), some (.int ((nI t) + 1)), some (.int (((nI j) * 3) + (nI a)))] [] (hG σ sr ln Lc μ) rfl ?_
          rw [am_aimF_up (by omega) c3, nI_1]
          exact ih (t + 1) _ _ (by omega) ((hab j (by omega)).imp id (fun ⟨i, h2, h3⟩ => ⟨i, by omega, by omega, h3⟩))
        · skip
          refine am_g 3 70 [some (.ref 15), some (.int kk), some (.int (nI a)), some (.int (nI j)), some (.int (nI t)), some (.int (((nI j) * 3) + (nI a)))] [.int (((nI j) * 3) + (nI a)), .ref 17] (hG σ sr ln Lc μ) rfl ?_
          refine am_ialdR (n := 24) (f := (σ 2)) (k := ((3 * j) + a)) rfl rfl (show (((nI j) * (nI 3)) + (nI a)) = nI ((3 * j) + a) from by first | (simp only [nI_mul2, nI_add]; done) | (simp only [nI_mul2, nI_add]; exact congrArg nI (by omega))) (by omega) (by decide) ?_
          exact am_ret2 rfl rfl rfl (by rw [am_aimF_at (by omega) c3]) rfl
  exact lp 9 0 kk none (by omega) (hk.imp id (fun ⟨j, h1, h2⟩ => ⟨j, by omega, by omega, h2⟩))
theorem sp_X11_aim_ok (d : Nat) {K : Nat} (hK : σ 5 0 = nI K) (hK8 : K ≤ 8) (hab : am_wab (σ 1)) (k a : Nat) (hk : k < K) (ha : a < 3) : am_X xs LL (d + 3) 90 [.ref 14, .int (nI k), .int (nI a)] (hG σ sr ln Lc μ) (some (.int (am_aimF (σ 1) (σ 2) a 9 (nI k)))) (hG σ sr ln Lc μ) := by
  refine am_XR (d := d + 2) (C := cd_X11_aim) (L := [some (.ref 14), some (.int (nI k)), some (.int (nI a))]) rfl rfl rfl rfl ?_
  refine am_g 3 5 [some (.ref 14), some (.int (nI k)), some (.int (nI a))] [.int (nI k), .ref 15] (hG σ sr ln Lc μ) rfl ?_
  refine am_call (y := 21) (vs := [.ref 15, .int (nI k)]) (rest := []) (v := (some (.int 1))) (h1 := (hG σ sr ln Lc μ)) rfl rfl rfl (sp_X3_isTold (σ := σ) (μ := μ) (d + 1) hK hK8 _ (am_in_of_nI hk (by omega))) ?_
  refine am_g 4 14 [some (.ref 14), some (.int (nI k)), some (.int (nI a))] [.int 2, .int 0, .int (nI a)] (hG σ sr ln Lc μ) rfl ?_
  refine am_call (y := 122) (vs := [.int (nI a), .int 0, .int 2]) (rest := []) (v := (some (.int 1))) (h1 := (hG σ sr ln Lc μ)) rfl rfl rfl (sp_X11_isWithin_b (d + 1) _ _ _ _ ((am_wi (by decide)).trans (am_in_of_nI ha (by omega)))) ?_
  refine am_g 5 29 [some (.ref 14), some (.int (nI k)), some (.int (nI a))] [.int (nI a), .int (nI k), .ref 15] (hG σ sr ln Lc μ) rfl ?_
  refine am_call (y := 25) (vs := [.ref 15, .int (nI k), .int (nI a)]) (rest := []) (v := (some (.int (am_aimF (σ 1) (σ 2) a 9 (nI k))))) (h1 := (hG σ sr ln Lc μ)) rfl rfl rfl (sp_X3_aimOf (σ := σ) (μ := μ) (d + 1) hab _ _ (Or.inr ⟨k, by omega, rfl⟩) (ha)) ?_
  exact am_ret2 rfl rfl rfl rfl rfl
theorem sp_X11_aim_bad (d : Nat) {K : Nat} (hK : σ 5 0 = nI K) (hK8 : K ≤ 8) (k a : Int32) (hbad : (am_in k K && am_in a 3) = false) : am_X xs LL (d + 3) 90 [.ref 14, .int k, .int a] (hG σ sr ln Lc μ) (some (.int (-2))) (hG σ sr ln Lc μ) := by
  refine am_XR (d := d + 2) (C := cd_X11_aim) (L := [some (.ref 14), some (.int k), some (.int a)]) rfl rfl rfl rfl ?_
  refine am_g 3 5 [some (.ref 14), some (.int k), some (.int a)] [.int k, .ref 15] (hG σ sr ln Lc μ) rfl ?_
  cases e1 : am_in k K with
  | false =>
    refine am_call (y := 21) (vs := [.ref 15, .int k]) (rest := []) (v := (some (.int 0))) (h1 := (hG σ sr ln Lc μ)) rfl rfl rfl (sp_X3_isTold (σ := σ) (μ := μ) (d + 1) hK hK8 _ e1) ?_
    refine am_g 2 22 [some (.ref 14), some (.int k), some (.int a)] [.int (-2)] (hG σ sr ln Lc μ) rfl ?_
    exact am_ret2 rfl rfl rfl rfl rfl
  | true =>
    refine am_call (y := 21) (vs := [.ref 15, .int k]) (rest := []) (v := (some (.int 1))) (h1 := (hG σ sr ln Lc μ)) rfl rfl rfl (sp_X3_isTold (σ := σ) (μ := μ) (d + 1) hK hK8 _ e1) ?_
    refine am_g 4 14 [some (.ref 14), some (.int k), some (.int a)] [.int 2, .int 0, .int a] (hG σ sr ln Lc μ) rfl ?_
    cases e2 : decide (0 ≤ a ∧ a ≤ 2) with
    | false =>
      refine am_call (y := 122) (vs := [.int a, .int 0, .int 2]) (rest := []) (v := (some (.int 0))) (h1 := (hG σ sr ln Lc μ)) rfl rfl rfl (sp_X11_isWithin_b (d + 1) _ _ _ _ e2) ?_
      refine am_g 2 22 [some (.ref 14), some (.int k), some (.int a)] [.int (-2)] (hG σ sr ln Lc μ) rfl ?_
      exact am_ret2 rfl rfl rfl rfl rfl
    | true =>
      refine am_call (y := 122) (vs := [.int a, .int 0, .int 2]) (rest := []) (v := (some (.int 1))) (h1 := (hG σ sr ln Lc μ)) rfl rfl rfl (sp_X11_isWithin_b (d + 1) _ _ _ _ e2) ?_
      refine am_g 1 23 [some (.ref 14), some (.int k), some (.int a)] [] (hG σ sr ln Lc μ) rfl ?_
      rw [am_wi (n := 3) (by decide)] at e2
      rw [e1, e2] at hbad
      cases hbad
theorem sp_X3_isUnder (d : Nat) (hab : am_wab (σ 1)) (kk o : Int32) (hk : kk = -1 ∨ ∃ j, j < 8 ∧ kk = nI j) {b : Bool} (eb : am_undF (σ 1) o 9 kk = b) : am_X xs LL (d + 1) 26 [.ref 15, .int kk, .int o] (hG σ sr ln Lc μ) (some (.int (am_b2 b))) (hG σ sr ln Lc μ) := by
  refine am_XR (d := d + 0) (C := cd_X3_isUnder) (L := [some (.ref 15), some (.int kk), some (.int o), none, none]) rfl rfl rfl rfl ?_
  refine am_g 4 5 [some (.ref 15), some (.int kk), some (.int o), some (.int kk), some (.int 0)] [] (hG σ sr ln Lc μ) rfl ?_
  have lp : ∀ (f t : Nat) (k : Int32), t ≤ 8 → (k = -1 ∨ ∃ j, j < f ∧ j + t < 8 ∧ k = nI j) → am_R xs LL cd_X3_isUnder (am_X xs LL (d + 0)) 5 [some (.ref 15), some (.int kk), some (.int o), some (.int k), some (.int (nI t))] [] (hG σ sr ln Lc μ) (some (.int (am_b2 (am_undF (σ 1) o f k)))) (hG σ sr ln Lc μ) := by
    intro f
    induction f with
    | zero =>
      intro t k ht hk
      rcases hk with rfl | ⟨j, h1, -, -⟩
      · skip
        refine am_g 3 (if 8 ≤ (nI t) then 45 else 12) [some (.ref 15), some (.int kk), some (.int o), some (.int (-1)), some (.int (nI t))] [] (hG σ sr ln Lc μ) rfl (am_brR (fun c1 => ?_) (fun c1 => ?_))
        · skip
          refine am_g 1 46 [some (.ref 15), some (.int kk), some (.int o), some (.int (-1)), some (.int (nI t))] [.int 0] (hG σ sr ln Lc μ) rfl ?_
          exact am_ret2 rfl rfl rfl (by rw [am_undF_no]; rfl) rfl
        · skip
          refine am_g 3 46 [some (.ref 15), some (.int kk), some (.int o), some (.int (-1)), some (.int (nI t))] [.int 0] (hG σ sr ln Lc μ) rfl ?_
          exact am_ret2 rfl rfl rfl (by rw [am_undF_no]; rfl) rfl
      · exact absurd h1 (Nat.not_lt_zero _)
    | succ f ih =>
      intro t k ht hk
      rcases hk with rfl | ⟨j, h1, h8, rfl⟩
      · skip
        refine am_g 3 (if 8 ≤ (nI t) then 45 else 12) [some (.ref 15), some (.int kk), some (.int o), some (.int (-1)), some (.int (nI t))] [] (hG σ sr ln Lc μ) rfl (am_brR (fun c2 => ?_) (fun c2 => ?_))
        · skip
          refine am_g 1 46 [some (.ref 15), some (.int kk), some (.int o), some (.int (-1)), some (.int (nI t))] [.int 0] (hG σ sr ln Lc μ) rfl ?_
          exact am_ret2 rfl rfl rfl (by rw [am_undF_no]; rfl) rfl
        · skip
          refine am_g 3 46 [some (.ref 15), some (.int kk), some (.int o), some (.int (-1)), some (.int (nI t))] [.int 0] (hG σ sr ln Lc μ) rfl ?_
          exact am_ret2 rfl rfl rfl (by rw [am_undF_no]; rfl) rfl
      · skip
        refine am_g 3 (if 8 ≤ (nI t) then 45 else 12) [some (.ref 15), some (.int kk), some (.int o), some (.int (nI j)), some (.int (nI t))] [] (hG σ sr ln Lc μ) rfl ?_
        rw [if_neg (show ¬ 8 ≤ (nI t) from (am_dnle (a := 8) (b := t) (rfl) (rfl) (by omega) (by omega) (by omega)))]
        refine am_g 2 (if (nI j) < 0 then 45 else 16) [some (.ref 15), some (.int kk), some (.int o), some (.int (nI j)), some (.int (nI t))] [] (hG σ sr ln Lc μ) rfl ?_
        rw [if_neg (show ¬ (nI j) < 0 from (am_dnlt (a := j) (b := 0) (rfl) (rfl) (by omega) (by omega) (by omega)))]
        refine am_g 5 (if 8 ≤ (nI j) then 45 else 25) [some (.ref 15), some (.int kk), some (.int o), some (.int (nI j)), some (.int (nI t))] [] (hG σ sr ln Lc μ) rfl ?_
        rw [if_neg (show ¬ 8 ≤ (nI j) from (am_dnle (a := 8) (b := j) (rfl) (rfl) (by omega) (by omega) (by omega)))]
        refine am_g 3 (if (nI j) = o then 30 else 32) [some (.ref 15), some (.int kk), some (.int o), some (.int (nI j)), some (.int (nI t))] [] (hG σ sr ln Lc μ) rfl (am_brR (fun c3 => ?_) (fun c3 => ?_))
        · skip
          refine am_g 1 31 [some (.ref 15), some (.int kk), some (.int o), some (.int (nI j)), some (.int (nI t))] [.int 1] (hG σ sr ln Lc μ) rfl ?_
          exact am_ret2 rfl rfl rfl (by rw [am_undF_at (by omega) c3]; rfl) rfl
        · skip
          refine am_g 3 37 [some (.ref 15), some (.int kk), some (.int o), some (.int (nI j)), some (.int (nI t))] [.int (nI j), .ref 16] (hG σ sr ln Lc μ) rfl ?_
          refine am_ialdR (n := 8) (f := (σ 1)) (k := j) rfl rfl (rfl) (by omega) (by decide) ?_
          refine am_g 3 5 [some (.ref 15), some (.int kk), some (.int o), some (.int (σ 1 j)), some (.int ((nI t) + 1))] [] (hG σ sr ln Lc μ) rfl ?_
          rw [am_undF_up (by omega) c3, nI_1]
          exact ih (t + 1) _ (by omega) ((hab j (by omega)).imp id (fun ⟨i, h2, h3⟩ => ⟨i, by omega, by omega, h3⟩))
  rw [← eb]
  exact lp 9 0 kk (by omega) (hk.imp id (fun ⟨j, h1, h2⟩ => ⟨j, by omega, by omega, h2⟩))
theorem sp_X11_bit1 (d : Nat) (h : am_H) : am_X xs LL (d + 1) 125 [.int 1] h (some (.int 1)) h := by
  refine am_XR (d := d + 0) (C := cd_X11_bit) (L := [some (.int 1)]) rfl rfl rfl rfl ?_
  refine am_g 4 9 [some (.int 1)] [.int 1] h rfl ?_
  exact am_ret2 rfl rfl rfl rfl rfl
theorem sp_X11_bit0 (d : Nat) (h : am_H) : am_X xs LL (d + 1) 125 [.int 0] h (some (.int 0)) h := by
  refine am_XR (d := d + 0) (C := cd_X11_bit) (L := [some (.int 0)]) rfl rfl rfl rfl ?_
  refine am_g 3 9 [some (.int 0)] [.int 0] h rfl ?_
  exact am_ret2 rfl rfl rfl rfl rfl
theorem sp_X11_under_ok (d : Nat) {K : Nat} (hK : σ 5 0 = nI K) (hK8 : K ≤ 8) (hab : am_wab (σ 1)) (k o : Nat) (hk : k < K) (ho : o < K) : am_X xs LL (d + 2) 92 [.ref 14, .int (nI k), .int (nI o)] (hG σ sr ln Lc μ) (some (.int (am_b2 (am_undF (σ 1) (nI o) 9 (nI k))))) (hG σ sr ln Lc μ) := by
  refine am_XR (d := d + 1) (C := cd_X11_under) (L := [some (.ref 14), some (.int (nI k)), some (.int (nI o))]) rfl rfl rfl rfl ?_
  refine am_g 3 5 [some (.ref 14), some (.int (nI k)), some (.int (nI o))] [.int (nI k), .ref 15] (hG σ sr ln Lc μ) rfl ?_
  refine am_call (y := 21) (vs := [.ref 15, .int (nI k)]) (rest := []) (v := (some (.int 1))) (h1 := (hG σ sr ln Lc μ)) rfl rfl rfl (sp_X3_isTold (σ := σ) (μ := μ) d hK hK8 _ (am_in_of_nI hk (by omega))) ?_
  refine am_g 4 16 [some (.ref 14), some (.int (nI k)), some (.int (nI o))] [.int (nI o), .ref 15] (hG σ sr ln Lc μ) rfl ?_
  refine am_call (y := 21) (vs := [.ref 15, .int (nI o)]) (rest := []) (v := (some (.int 1))) (h1 := (hG σ sr ln Lc μ)) rfl rfl rfl (sp_X3_isTold (σ := σ) (μ := μ) d hK hK8 _ (am_in_of_nI ho (by omega))) ?_
  refine am_g 5 31 [some (.ref 14), some (.int (nI k)), some (.int (nI o))] [.int (nI o), .int (nI k), .ref 15] (hG σ sr ln Lc μ) rfl ?_
  cases e1 : am_undF (σ 1) (nI o) 9 (nI k) with
  | false =>
    refine am_call (y := 26) (vs := [.ref 15, .int (nI k), .int (nI o)]) (rest := []) (v := (some (.int 0))) (h1 := (hG σ sr ln Lc μ)) rfl rfl rfl (sp_X3_isUnder (σ := σ) (μ := μ) d hab _ _ (Or.inr ⟨k, by omega, rfl⟩) e1) ?_
    refine am_call (y := 125) (vs := [.int 0]) (rest := []) (v := (some (.int 0))) (h1 := (hG σ sr ln Lc μ)) rfl rfl rfl (sp_X11_bit0 d _) ?_
    exact am_ret2 rfl rfl rfl rfl rfl
  | true =>
    refine am_call (y := 26) (vs := [.ref 15, .int (nI k), .int (nI o)]) (rest := []) (v := (some (.int 1))) (h1 := (hG σ sr ln Lc μ)) rfl rfl rfl (sp_X3_isUnder (σ := σ) (μ := μ) d hab _ _ (Or.inr ⟨k, by omega, rfl⟩) e1) ?_
    refine am_call (y := 125) (vs := [.int 1]) (rest := []) (v := (some (.int 1))) (h1 := (hG σ sr ln Lc μ)) rfl rfl rfl (sp_X11_bit1 d _) ?_
    exact am_ret2 rfl rfl rfl rfl rfl
theorem sp_X11_under_bad (d : Nat) {K : Nat} (hK : σ 5 0 = nI K) (hK8 : K ≤ 8) (k o : Int32) (hbad : (am_in k K && am_in o K) = false) : am_X xs LL (d + 2) 92 [.ref 14, .int k, .int o] (hG σ sr ln Lc μ) (some (.int (-2))) (hG σ sr ln Lc μ) := by
  refine am_XR (d := d + 1) (C := cd_X11_under) (L := [some (.ref 14), some (.int k), some (.int o)]) rfl rfl rfl rfl ?_
  refine am_g 3 5 [some (.ref 14), some (.int k), some (.int o)] [.int k, .ref 15] (hG σ sr ln Lc μ) rfl ?_
  cases e1 : am_in k K with
  | false =>
    refine am_call (y := 21) (vs := [.ref 15, .int k]) (rest := []) (v := (some (.int 0))) (h1 := (hG σ sr ln Lc μ)) rfl rfl rfl (sp_X3_isTold (σ := σ) (μ := μ) d hK hK8 _ e1) ?_
    refine am_g 2 24 [some (.ref 14), some (.int k), some (.int o)] [.int (-2)] (hG σ sr ln Lc μ) rfl ?_
    exact am_ret2 rfl rfl rfl rfl rfl
  | true =>
    refine am_call (y := 21) (vs := [.ref 15, .int k]) (rest := []) (v := (some (.int 1))) (h1 := (hG σ sr ln Lc μ)) rfl rfl rfl (sp_X3_isTold (σ := σ) (μ := μ) d hK hK8 _ e1) ?_
    refine am_g 4 16 [some (.ref 14), some (.int k), some (.int o)] [.int o, .ref 15] (hG σ sr ln Lc μ) rfl ?_
    cases e2 : am_in o K with
    | false =>
      refine am_call (y := 21) (vs := [.ref 15, .int o]) (rest := []) (v := (some (.int 0))) (h1 := (hG σ sr ln Lc μ)) rfl rfl rfl (sp_X3_isTold (σ := σ) (μ := μ) d hK hK8 _ e2) ?_
      refine am_g 2 24 [some (.ref 14), some (.int k), some (.int o)] [.int (-2)] (hG σ sr ln Lc μ) rfl ?_
      exact am_ret2 rfl rfl rfl rfl rfl
    | true =>
      refine am_call (y := 21) (vs := [.ref 15, .int o]) (rest := []) (v := (some (.int 1))) (h1 := (hG σ sr ln Lc μ)) rfl rfl rfl (sp_X3_isTold (σ := σ) (μ := μ) d hK hK8 _ e2) ?_
      refine am_g 1 25 [some (.ref 14), some (.int k), some (.int o)] [] (hG σ sr ln Lc μ) rfl ?_
      rw [e1, e2] at hbad
      cases hbad
theorem sp_X3_setRole (d : Nat) (f q : Nat) (n : Int32) (hf : f < 6) (hq : q < 3) : am_X xs LL (d + 2) 27 [.ref 15, .int (nI f), .int (nI q), .int n] (hG σ sr ln Lc μ) none (hG (am_up σ 3 (upd (σ 3) ((3 * f) + q) n)) sr ln Lc μ) := by
  refine am_XR (d := d + 1) (C := cd_X3_setRole) (L := [some (.ref 15), some (.int (nI f)), some (.int (nI q)), some (.int n), none]) rfl rfl rfl rfl ?_
  refine am_g 9 10 [some (.ref 15), some (.int (nI f)), some (.int (nI q)), some (.int n), some (.int (((nI f) * 3) + (nI q)))] [.int 5, .int 0, .int (nI f)] (hG σ sr ln Lc μ) rfl ?_
  refine am_call (y := 122) (vs := [.int (nI f), .int 0, .int 5]) (rest := []) (v := (some (.int 1))) (h1 := (hG σ sr ln Lc μ)) rfl rfl rfl (sp_X11_isWithin_b d _ _ _ _ ((am_wi (by decide)).trans (am_in_of_nI hf (by omega)))) ?_
  refine am_g 3 (if (((nI f) * 3) + (nI q)) < 0 then 39 else 21) [some (.ref 15), some (.int (nI f)), some (.int (nI q)), some (.int n), some (.int (((nI f) * 3) + (nI q)))] [] (hG σ sr ln Lc μ) rfl ?_
  rw [if_neg (show ¬ (((nI f) * 3) + (nI q)) < 0 from (am_dnlt (a := ((3 * f) + q)) (b := 0) (show (((nI f) * (nI 3)) + (nI q)) = nI ((3 * f) + q) from by first | (simp only [nI_mul2, nI_add]; done) | (simp only [nI_mul2, nI_add]; exact congrArg nI (by omega))) (rfl) (by omega) (by omega) (by omega)))]
  refine am_g 5 (if 18 ≤ (((nI f) * 3) + (nI q)) then 39 else 31) [some (.ref 15), some (.int (nI f)), some (.int (nI q)), some (.int n), some (.int (((nI f) * 3) + (nI q)))] [] (hG σ sr ln Lc μ) rfl ?_
  rw [if_neg (show ¬ 18 ≤ (((nI f) * 3) + (nI q)) from (am_dnle (a := 18) (b := ((3 * f) + q)) (rfl) (show (((nI f) * (nI 3)) + (nI q)) = nI ((3 * f) + q) from by first | (simp only [nI_mul2, nI_add]; done) | (simp only [nI_mul2, nI_add]; exact congrArg nI (by omega))) (by omega) (by omega) (by omega)))]
  refine am_g 4 38 [some (.ref 15), some (.int (nI f)), some (.int (nI q)), some (.int n), some (.int (((nI f) * 3) + (nI q)))] [.int n, .int (((nI f) * 3) + (nI q)), .ref 18] (hG σ sr ln Lc μ) rfl ?_
  refine am_iastR (n := 18) (f := (σ 3)) (k := ((3 * f) + q)) (h1 := (hG (am_up σ 3 (upd (σ 3) ((3 * f) + q) n)) sr ln Lc μ)) rfl rfl (show (((nI f) * (nI 3)) + (nI q)) = nI ((3 * f) + q) from by first | (simp only [nI_mul2, nI_add]; done) | (simp only [nI_mul2, nI_add]; exact congrArg nI (by omega))) (by omega) (by decide) rfl ?_
  exact am_ret2 rfl rfl rfl rfl rfl
theorem sp_X11_names_ok (d : Nat) (f : Nat) (hf : f < 6) (p q t : Int32) (hp : am_in1 p 20 = true) (hq : am_in1 q 20 = true) (ht : am_in1 t 20 = true) : am_X xs LL (d + 3) 91 [.ref 14, .int (nI f), .int p, .int q, .int t] (hG σ sr ln Lc μ) (some (.int 1)) (hG (am_up (am_us (am_us σ 10 0) 20 0) 3 (upd (upd (upd (σ 3) ((3 * f) + 0) p) ((3 * f) + 1) q) ((3 * f) + 2) t)) sr ln Lc μ) := by
  refine am_XR (d := d + 2) (C := cd_X11_names) (L := [some (.ref 14), some (.int (nI f)), some (.int p), some (.int q), some (.int t)]) rfl rfl rfl rfl ?_
  refine am_g 3 3 [some (.ref 14), some (.int (nI f)), some (.int p), some (.int q), some (.int t)] [.int 5, .int 0, .int (nI f)] (hG σ sr ln Lc μ) rfl ?_
  refine am_call (y := 122) (vs := [.int (nI f), .int 0, .int 5]) (rest := []) (v := (some (.int 1))) (h1 := (hG σ sr ln Lc μ)) rfl rfl rfl (sp_X11_isWithin_b (d + 1) _ _ _ _ ((am_wi (by decide)).trans (am_in_of_nI hf (by omega)))) ?_
  refine am_g 2 10 [some (.ref 14), some (.int (nI f)), some (.int p), some (.int q), some (.int t)] [.int p] (hG σ sr ln Lc μ) rfl ?_
  refine am_call (y := 124) (vs := [.int p]) (rest := []) (v := (some (.int 1))) (h1 := (hG σ sr ln Lc μ)) rfl rfl rfl (sp_X11_isNameOrNone d _ _ hp) ?_
  refine am_g 2 17 [some (.ref 14), some (.int (nI f)), some (.int p), some (.int q), some (.int t)] [.int q] (hG σ sr ln Lc μ) rfl ?_
  refine am_call (y := 124) (vs := [.int q]) (rest := []) (v := (some (.int 1))) (h1 := (hG σ sr ln Lc μ)) rfl rfl rfl (sp_X11_isNameOrNone d _ _ hq) ?_
  refine am_g 2 25 [some (.ref 14), some (.int (nI f)), some (.int p), some (.int q), some (.int t)] [.int t] (hG σ sr ln Lc μ) rfl ?_
  refine am_call (y := 124) (vs := [.int t]) (rest := []) (v := (some (.int 1))) (h1 := (hG σ sr ln Lc μ)) rfl rfl rfl (sp_X11_isNameOrNone d _ _ ht) ?_
  refine am_g 2 35 [some (.ref 14), some (.int (nI f)), some (.int p), some (.int q), some (.int t)] [.ref 14] (hG σ sr ln Lc μ) rfl ?_
  refine am_call (y := 131) (vs := [.ref 14]) (rest := []) (v := none) (h1 := (hG (am_us (am_us σ 10 0) 20 0) sr ln Lc μ)) rfl rfl rfl (sp_X11_forgetSets (σ := σ) (μ := μ) (d + 1)) ?_
  refine am_g 5 45 [some (.ref 14), some (.int (nI f)), some (.int p), some (.int q), some (.int t)] [.int p, .int 0, .int (nI f), .ref 15] (hG (am_us (am_us σ 10 0) 20 0) sr ln Lc μ) rfl ?_
  refine am_call (y := 27) (vs := [.ref 15, .int (nI f), .int 0, .int p]) (rest := []) (v := none) (h1 := (hG (am_up (am_us (am_us σ 10 0) 20 0) 3 (upd (σ 3) ((3 * f) + 0) p)) sr ln Lc μ)) rfl rfl rfl (sp_X3_setRole (σ := (am_us (am_us σ 10 0) 20 0)) (μ := μ) d f 0 _ hf (by decide)) ?_
  refine am_g 5 55 [some (.ref 14), some (.int (nI f)), some (.int p), some (.int q), some (.int t)] [.int q, .int 1, .int (nI f), .ref 15] (hG (am_up (am_us (am_us σ 10 0) 20 0) 3 (upd (σ 3) ((3 * f) + 0) p)) sr ln Lc μ) rfl ?_
  refine am_call (y := 27) (vs := [.ref 15, .int (nI f), .int 1, .int q]) (rest := []) (v := none) (h1 := (hG (am_up (am_us (am_us σ 10 0) 20 0) 3 (upd (upd (σ 3) ((3 * f) + 0) p) ((3 * f) + 1) q)) sr ln Lc μ)) rfl rfl rfl (sp_X3_setRole (σ := (am_up (am_us (am_us σ 10 0) 20 0) 3 (upd (σ 3) ((3 * f) + 0) p))) (μ := μ) d f 1 _ hf (by decide)) ?_
  refine am_g 5 66 [some (.ref 14), some (.int (nI f)), some (.int p), some (.int q), some (.int t)] [.int t, .int 2, .int (nI f), .ref 15] (hG (am_up (am_us (am_us σ 10 0) 20 0) 3 (upd (upd (σ 3) ((3 * f) + 0) p) ((3 * f) + 1) q)) sr ln Lc μ) rfl ?_
  refine am_call (y := 27) (vs := [.ref 15, .int (nI f), .int 2, .int t]) (rest := []) (v := none) (h1 := (hG (am_up (am_us (am_us σ 10 0) 20 0) 3 (upd (upd (upd (σ 3) ((3 * f) + 0) p) ((3 * f) + 1) q) ((3 * f) + 2) t)) sr ln Lc μ)) rfl rfl rfl (sp_X3_setRole (σ := (am_up (am_us (am_us σ 10 0) 20 0) 3 (upd (upd (σ 3) ((3 * f) + 0) p) ((3 * f) + 1) q))) (μ := μ) d f 2 _ hf (by decide)) ?_
  refine am_g 1 70 [some (.ref 14), some (.int (nI f)), some (.int p), some (.int q), some (.int t)] [.int 1] (hG (am_up (am_us (am_us σ 10 0) 20 0) 3 (upd (upd (upd (σ 3) ((3 * f) + 0) p) ((3 * f) + 1) q) ((3 * f) + 2) t)) sr ln Lc μ) rfl ?_
  exact am_ret2 rfl rfl rfl rfl rfl
theorem sp_X11_names_bad (d : Nat) (f p q t : Int32) (hbad : (am_in f 6 && (am_in1 p 20 && (am_in1 q 20 && am_in1 t 20))) = false) : am_X xs LL (d + 3) 91 [.ref 14, .int f, .int p, .int q, .int t] (hG σ sr ln Lc μ) (some (.int (-2))) (hG σ sr ln Lc μ) := by
  refine am_XR (d := d + 2) (C := cd_X11_names) (L := [some (.ref 14), some (.int f), some (.int p), some (.int q), some (.int t)]) rfl rfl rfl rfl ?_
  refine am_g 3 3 [some (.ref 14), some (.int f), some (.int p), some (.int q), some (.int t)] [.int 5, .int 0, .int f] (hG σ sr ln Lc μ) rfl ?_
  cases e1 : decide (0 ≤ f ∧ f ≤ 5) with
  | false =>
    refine am_call (y := 122) (vs := [.int f, .int 0, .int 5]) (rest := []) (v := (some (.int 0))) (h1 := (hG σ sr ln Lc μ)) rfl rfl rfl (sp_X11_isWithin_b (d + 1) _ _ _ _ e1) ?_
    refine am_g 2 33 [some (.ref 14), some (.int f), some (.int p), some (.int q), some (.int t)] [.int (-2)] (hG σ sr ln Lc μ) rfl ?_
    exact am_ret2 rfl rfl rfl rfl rfl
  | true =>
    refine am_call (y := 122) (vs := [.int f, .int 0, .int 5]) (rest := []) (v := (some (.int 1))) (h1 := (hG σ sr ln Lc μ)) rfl rfl rfl (sp_X11_isWithin_b (d + 1) _ _ _ _ e1) ?_
    refine am_g 2 10 [some (.ref 14), some (.int f), some (.int p), some (.int q), some (.int t)] [.int p] (hG σ sr ln Lc μ) rfl ?_
    cases e2 : am_in1 p 20 with
    | false =>
      refine am_call (y := 124) (vs := [.int p]) (rest := []) (v := (some (.int 0))) (h1 := (hG σ sr ln Lc μ)) rfl rfl rfl (sp_X11_isNameOrNone d _ _ e2) ?_
      refine am_g 2 33 [some (.ref 14), some (.int f), some (.int p), some (.int q), some (.int t)] [.int (-2)] (hG σ sr ln Lc μ) rfl ?_
      exact am_ret2 rfl rfl rfl rfl rfl
    | true =>
      refine am_call (y := 124) (vs := [.int p]) (rest := []) (v := (some (.int 1))) (h1 := (hG σ sr ln Lc μ)) rfl rfl rfl (sp_X11_isNameOrNone d _ _ e2) ?_
      refine am_g 2 17 [some (.ref 14), some (.int f), some (.int p), some (.int q), some (.int t)] [.int q] (hG σ sr ln Lc μ) rfl ?_
      cases e3 : am_in1 q 20 with
      | false =>
        refine am_call (y := 124) (vs := [.int q]) (rest := []) (v := (some (.int 0))) (h1 := (hG σ sr ln Lc μ)) rfl rfl rfl (sp_X11_isNameOrNone d _ _ e3) ?_
        refine am_g 2 33 [some (.ref 14), some (.int f), some (.int p), some (.int q), some (.int t)] [.int (-2)] (hG σ sr ln Lc μ) rfl ?_
        exact am_ret2 rfl rfl rfl rfl rfl
      | true =>
        refine am_call (y := 124) (vs := [.int q]) (rest := []) (v := (some (.int 1))) (h1 := (hG σ sr ln Lc μ)) rfl rfl rfl (sp_X11_isNameOrNone d _ _ e3) ?_
        refine am_g 2 25 [some (.ref 14), some (.int f), some (.int p), some (.int q), some (.int t)] [.int t] (hG σ sr ln Lc μ) rfl ?_
        cases e4 : am_in1 t 20 with
        | false =>
          refine am_call (y := 124) (vs := [.int t]) (rest := []) (v := (some (.int 0))) (h1 := (hG σ sr ln Lc μ)) rfl rfl rfl (sp_X11_isNameOrNone d _ _ e4) ?_
          refine am_g 2 33 [some (.ref 14), some (.int f), some (.int p), some (.int q), some (.int t)] [.int (-2)] (hG σ sr ln Lc μ) rfl ?_
          exact am_ret2 rfl rfl rfl rfl rfl
        | true =>
          refine am_call (y := 124) (vs := [.int t]) (rest := []) (v := (some (.int 1))) (h1 := (hG σ sr ln Lc μ)) rfl rfl rfl (sp_X11_isNameOrNone d _ _ e4) ?_
          refine am_g 1 34 [some (.ref 14), some (.int f), some (.int p), some (.int q), some (.int t)] [] (hG σ sr ln Lc μ) rfl ?_
          rw [am_wi (n := 6) (by decide)] at e1
          rw [e1, e2, e3, e4] at hbad
          cases hbad
theorem sp_X3_nameOf (d : Nat) (f q : Nat) (hf : f < 6) (hq : q < 3) : am_X xs LL (d + 2) 28 [.ref 15, .int (nI f), .int (nI q)] (hG σ sr ln Lc μ) (some (.int (σ 3 ((3 * f) + q)))) (hG σ sr ln Lc μ) := by
  refine am_XR (d := d + 1) (C := cd_X3_nameOf) (L := [some (.ref 15), some (.int (nI f)), some (.int (nI q)), none, none]) rfl rfl rfl rfl ?_
  refine am_g 9 9 [some (.ref 15), some (.int (nI f)), some (.int (nI q)), some (.int (((nI f) * 3) + (nI q))), none] [.int 5, .int 0, .int (nI f)] (hG σ sr ln Lc μ) rfl ?_
  refine am_call (y := 122) (vs := [.int (nI f), .int 0, .int 5]) (rest := []) (v := (some (.int 1))) (h1 := (hG σ sr ln Lc μ)) rfl rfl rfl (sp_X11_isWithin_b d _ _ _ _ ((am_wi (by decide)).trans (am_in_of_nI hf (by omega)))) ?_
  refine am_g 3 (if (((nI f) * 3) + (nI q)) < 0 then 32 else 19) [some (.ref 15), some (.int (nI f)), some (.int (nI q)), some (.int (((nI f) * 3) + (nI q))), none] [] (hG σ sr ln Lc μ) rfl ?_
  rw [if_neg (show ¬ (((nI f) * 3) + (nI q)) < 0 from (am_dnlt (a := ((3 * f) + q)) (b := 0) (show (((nI f) * (nI 3)) + (nI q)) = nI ((3 * f) + q) from by first | (simp only [nI_mul2, nI_add]; done) | (simp only [nI_mul2, nI_add]; exact congrArg nI (by omega))) (rfl) (by omega) (by omega) (by omega)))]
  refine am_g 5 (if 18 ≤ (((nI f) * 3) + (nI q)) then 32 else 28) [some (.ref 15), some (.int (nI f)), some (.int (nI q)), some (.int (((nI f) * 3) + (nI q))), none] [] (hG σ sr ln Lc μ) rfl ?_
  rw [if_neg (show ¬ 18 ≤ (((nI f) * 3) + (nI q)) from (am_dnle (a := 18) (b := ((3 * f) + q)) (rfl) (show (((nI f) * (nI 3)) + (nI q)) = nI ((3 * f) + q) from by first | (simp only [nI_mul2, nI_add]; done) | (simp only [nI_mul2, nI_add]; exact congrArg nI (by omega))) (by omega) (by omega) (by omega)))]
  refine am_g 8 45 [some (.ref 15), some (.int (nI f)), some (.int (nI q)), some (.int (((nI f) * 3) + (nI q))), some (.int 1)] [.int (((nI f) * 3) + (nI q)), .ref 18] (hG σ sr ln Lc μ) rfl ?_
  refine am_ialdR (n := 18) (f := (σ 3)) (k := ((3 * f) + q)) rfl rfl (show (((nI f) * (nI 3)) + (nI q)) = nI ((3 * f) + q) from by first | (simp only [nI_mul2, nI_add]; done) | (simp only [nI_mul2, nI_add]; exact congrArg nI (by omega))) (by omega) (by decide) ?_
  refine am_g 1 50 [some (.ref 15), some (.int (nI f)), some (.int (nI q)), some (.int (((nI f) * 3) + (nI q))), some (.int 1)] [.int (σ 3 ((3 * f) + q))] (hG σ sr ln Lc μ) rfl ?_
  exact am_ret2 rfl rfl rfl rfl rfl
theorem sp_X3_kindOfObject_ok (d : Nat) (o : Nat) (ho : o < 16) : am_X xs LL (d + 1) 32 [.ref 15, .int (nI o)] (hG σ sr ln Lc μ) (some (.int (σ 4 o))) (hG σ sr ln Lc μ) := by
  refine am_XR (d := d + 0) (C := cd_X3_kindOfObject) (L := [some (.ref 15), some (.int (nI o))]) rfl rfl rfl rfl ?_
  refine am_g 2 (if (nI o) < 0 then 22 else 4) [some (.ref 15), some (.int (nI o))] [] (hG σ sr ln Lc μ) rfl ?_
  rw [if_neg (show ¬ (nI o) < 0 from (am_dnlt (a := o) (b := 0) (rfl) (rfl) (by omega) (by omega) (by omega)))]
  refine am_g 5 (if 16 ≤ (nI o) then 22 else 13) [some (.ref 15), some (.int (nI o))] [] (hG σ sr ln Lc μ) rfl ?_
  rw [if_neg (show ¬ 16 ≤ (nI o) from (am_dnle (a := 16) (b := o) (rfl) (rfl) (by omega) (by omega) (by omega)))]
  refine am_g 3 18 [some (.ref 15), some (.int (nI o))] [.int (nI o), .ref 19] (hG σ sr ln Lc μ) rfl ?_
  refine am_ialdR (n := 16) (f := (σ 4)) (k := o) rfl rfl (rfl) (by omega) (by decide) ?_
  refine am_g 1 23 [some (.ref 15), some (.int (nI o))] [.int (σ 4 o)] (hG σ sr ln Lc μ) rfl ?_
  exact am_ret2 rfl rfl rfl rfl rfl
theorem sp_X3_kindOfObject_no (d : Nat)  : am_X xs LL (d + 1) 32 [.ref 15, .int (-1)] (hG σ sr ln Lc μ) (some (.int (-1))) (hG σ sr ln Lc μ) := by
  refine am_XR (d := d + 0) (C := cd_X3_kindOfObject) (L := [some (.ref 15), some (.int (-1))]) rfl rfl rfl rfl ?_
  refine am_g 3 23 [some (.ref 15), some (.int (-1))] [.int (-1)] (hG σ sr ln Lc μ) rfl ?_
  exact am_ret2 rfl rfl rfl rfl rfl
end XK
