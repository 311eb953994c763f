/-! the class: kinds -/
section XK
variable {xs : Nat → Int32} {LL : Nat} {σ μ : Nat → Nat → Int32} {sr : Nat → Nat} {ln : Nat → Nat → Int32} {Lc : Nat}
theorem sp_X3_isTold (d : Nat) {K : Nat} (hK : σ 5 0 = nI K) (hK8 : K ≤ 8) (n : Int32) {b : Bool} (eb : am_in n K = b) : am_X xs LL (d + 1) 21 [.ref 15, .int n] (hG σ sr ln Lc μ) (some (.int (am_b2 b))) (hG σ sr ln Lc μ) := by
  refine am_XR (d := d + 0) (C := cd_X3_isTold) (L := [some (.ref 15), some (.int n)]) rfl rfl rfl rfl ?_
  refine am_g 2 (if n < 0 then 16 else 4) [some (.ref 15), some (.int n)] [] (hG σ sr ln Lc μ) rfl (am_brR (fun c1 => ?_) (fun c1 => ?_))
  · skip
    refine am_g 1 17 [some (.ref 15), some (.int n)] [.int 0] (hG σ sr ln Lc μ) rfl ?_
    exact am_ret2 rfl rfl rfl (by rw [← eb, am_inF1 c1]; rfl) rfl
  · skip
    refine am_g 4 (if (σ 5 0) ≤ n then 16 else 12) [some (.ref 15), some (.int n)] [] (hG σ sr ln Lc μ) rfl (am_brR (fun c2 => ?_) (fun c2 => ?_))
    · skip
      refine am_g 1 17 [some (.ref 15), some (.int n)] [.int 0] (hG σ sr ln Lc μ) rfl ?_
      exact am_ret2 rfl rfl rfl (by rw [← eb, am_inF2 hK c2 (by omega)]; rfl) rfl
    · skip
      refine am_g 2 17 [some (.ref 15), some (.int n)] [.int 1] (hG σ sr ln Lc μ) rfl ?_
      exact am_ret2 rfl rfl rfl (by rw [← eb, am_inT c1 hK c2 (by omega)]; rfl) rfl
theorem sp_X3_isObject (d : Nat) {O : Nat} (hO : σ 6 0 = nI O) (hO16 : O ≤ 16) (n : Int32) {b : Bool} (eb : am_in n O = b) : am_X xs LL (d + 1) 31 [.ref 15, .int n] (hG σ sr ln Lc μ) (some (.int (am_b2 b))) (hG σ sr ln Lc μ) := by
  refine am_XR (d := d + 0) (C := cd_X3_isObject) (L := [some (.ref 15), some (.int n)]) rfl rfl rfl rfl ?_
  refine am_g 2 (if n < 0 then 16 else 4) [some (.ref 15), some (.int n)] [] (hG σ sr ln Lc μ) rfl (am_brR (fun c1 => ?_) (fun c1 => ?_))
  · skip
    refine am_g 1 17 [some (.ref 15), some (.int n)] [.int 0] (hG σ sr ln Lc μ) rfl ?_
    exact am_ret2 rfl rfl rfl (by rw [← eb, am_inF1 c1]; rfl) rfl
  · skip
    refine am_g 4 (if (σ 6 0) ≤ n then 16 else 12) [some (.ref 15), some (.int n)] [] (hG σ sr ln Lc μ) rfl (am_brR (fun c2 => ?_) (fun c2 => ?_))
    · skip
      refine am_g 1 17 [some (.ref 15), some (.int n)] [.int 0] (hG σ sr ln Lc μ) rfl ?_
      exact am_ret2 rfl rfl rfl (by rw [← eb, am_inF2 hO c2 (by omega)]; rfl) rfl
    · skip
      refine am_g 2 17 [some (.ref 15), some (.int n)] [.int 1] (hG σ sr ln Lc μ) rfl ?_
      exact am_ret2 rfl rfl rfl (by rw [← eb, am_inT c1 hO c2 (by omega)]; rfl) rfl
theorem sp_X3_isFull_y (d : Nat) {K : Nat} (hK : σ 5 0 = nI K) (hK8 : K ≤ 8) (h8 : K = 8) : am_X xs LL (d + 1) 22 [.ref 15] (hG σ sr ln Lc μ) (some (.int 1)) (hG σ sr ln Lc μ) := by
  refine am_XR (d := d + 0) (C := cd_X3_isFull) (L := [some (.ref 15)]) rfl rfl rfl rfl ?_
  refine am_g 3 (if (σ 5 0) < 0 then 19 else 7) [some (.ref 15)] [] (hG σ sr ln Lc μ) rfl ?_
  rw [if_neg (show ¬ (σ 5 0) < 0 from (am_dnlt (a := K) (b := 0) (hK) (rfl) (by omega) (by omega) (by omega)))]
  refine am_g 6 (if (σ 5 0) < 8 then 23 else 19) [some (.ref 15)] [] (hG σ sr ln Lc μ) rfl ?_
  rw [if_neg (show ¬ (σ 5 0) < 8 from (am_dnlt (a := K) (b := 8) (hK) (rfl) (by omega) (by omega) (by omega)))]
  refine am_g 2 24 [some (.ref 15)] [.int 1] (hG σ sr ln Lc μ) rfl ?_
  exact am_ret2 rfl rfl rfl rfl rfl
theorem sp_X3_isFull_n (d : Nat) {K : Nat} (hK : σ 5 0 = nI K) (hK8 : K ≤ 8) (h8 : K < 8) : am_X xs LL (d + 1) 22 [.ref 15] (hG σ sr ln Lc μ) (some (.int 0)) (hG σ sr ln Lc μ) := by
  refine am_XR (d := d + 0) (C := cd_X3_isFull) (L := [some (.ref 15)]) rfl rfl rfl rfl ?_
  refine am_g 3 (if (σ 5 0) < 0 then 19 else 7) [some (.ref 15)] [] (hG σ sr ln Lc μ) rfl ?_
  rw [if_neg (show ¬ (σ 5 0) < 0 from (am_dnlt (a := K) (b := 0) (hK) (rfl) (by omega) (by omega) (by omega)))]
  refine am_g 6 (if (σ 5 0) < 8 then 23 else 19) [some (.ref 15)] [] (hG σ sr ln Lc μ) rfl ?_
  rw [if_pos (show (σ 5 0) < 8 from (am_dlt (a := K) (b := 8) (hK) (rfl) (by omega) (by omega) (by omega)))]
  refine am_g 1 24 [some (.ref 15)] [.int 0] (hG σ sr ln Lc μ) rfl ?_
  exact am_ret2 rfl rfl rfl rfl rfl
theorem sp_X3_tell (d : Nat) {K : Nat} (hK : σ 5 0 = nI K) (hK8 : K ≤ 8) (h8 : K < 8) (o : Int32) : am_X xs LL (d + 2) 23 [.ref 15, .int o] (hG σ sr ln Lc μ) (some (.int (σ 5 0))) (hG (am_us (am_up σ 1 (upd (σ 1) K o)) 5 ((σ 5 0) + 1)) sr ln Lc μ) := by
  refine am_XR (d := d + 1) (C := cd_X3_tell) (L := [some (.ref 15), some (.int o)]) rfl rfl rfl rfl ?_
  refine am_g 1 1 [some (.ref 15), some (.int o)] [.ref 15] (hG σ sr ln Lc μ) rfl ?_
  refine am_call (y := 22) (vs := [.ref 15]) (rest := []) (v := (some (.int 0))) (h1 := (hG σ sr ln Lc μ)) rfl rfl rfl (sp_X3_isFull_n (σ := σ) (μ := μ) d hK hK8 h8) ?_
  refine am_g 6 19 [some (.ref 15), some (.int o)] [.int o, .int (σ 5 0), .ref 16] (hG σ sr ln Lc μ) rfl ?_
  refine am_iastR (n := 8) (f := (σ 1)) (k := K) (h1 := (hG (am_up σ 1 (upd (σ 1) K o)) sr ln Lc μ)) rfl rfl (hK) (by omega) (by decide) rfl ?_
  refine am_g 7 31 [some (.ref 15), some (.int o)] [.int (σ 5 0)] (hG (am_us (am_up σ 1 (upd (σ 1) K o)) 5 ((σ 5 0) + 1)) sr ln Lc μ) rfl ?_
  exact am_ret2 rfl rfl rfl rfl rfl
theorem sp_X11_forgetSets (d : Nat)  : am_X xs LL (d + 1) 131 [.ref 14] (hG σ sr ln Lc μ) none (hG (am_us (am_us σ 10 0) 20 0) sr ln Lc μ) := by
  refine am_XR (d := d + 0) (C := cd_X11_forgetSets) (L := [some (.ref 14)]) rfl rfl rfl rfl ?_
  refine am_g 8 16 [some (.ref 14)] [] (hG (am_us (am_us σ 10 0) 20 0) sr ln Lc μ) rfl ?_
  exact am_ret2 rfl rfl rfl rfl rfl
theorem sp_X11_kind_bad (d : Nat) {K : Nat} (hK : σ 5 0 = nI K) (hK8 : K ≤ 8) (o : Int32) (h1 : ¬ o = -1) (h2 : am_in o K = false) : am_X xs LL (d + 3) 88 [.ref 14, .int o] (hG σ sr ln Lc μ) (some (.int (-2))) (hG σ sr ln Lc μ) := by
  refine am_XR (d := d + 2) (C := cd_X11_kind) (L := [some (.ref 14), some (.int o)]) rfl rfl rfl rfl ?_
  refine am_g 3 (if o = (-1) then 19 else 5) [some (.ref 14), some (.int o)] [] (hG σ sr ln Lc μ) rfl ?_
  rw [if_neg (show ¬ o = (-1) from h1)]
  refine am_g 3 10 [some (.ref 14), some (.int o)] [.int o, .ref 15] (hG σ sr ln Lc μ) rfl ?_
  refine am_call (y := 21) (vs := [.ref 15, .int o]) (rest := []) (v := (some (.int 0))) (h1 := (hG σ sr ln Lc μ)) rfl rfl rfl (sp_X3_isTold (σ := σ) (μ := μ) (d + 1) hK hK8 _ h2) ?_
  refine am_g 2 18 [some (.ref 14), some (.int o)] [.int (-2)] (hG σ sr ln Lc μ) rfl ?_
  exact am_ret2 rfl rfl rfl rfl rfl
theorem sp_X11_kind_full (d : Nat) {K : Nat} (hK : σ 5 0 = nI K) (hK8 : K ≤ 8) (o : Int32) (ho : o = -1 ∨ am_in o K = true) (h8 : K = 8) : am_X xs LL (d + 3) 88 [.ref 14, .int o] (hG σ sr ln Lc μ) (some (.int (-4))) (hG σ sr ln Lc μ) := by
  refine am_XR (d := d + 2) (C := cd_X11_kind) (L := [some (.ref 14), some (.int o)]) rfl rfl rfl rfl ?_
  by_cases hm : o = -1
  · skip
    refine am_g 3 (if o = (-1) then 19 else 5) [some (.ref 14), some (.int o)] [] (hG σ sr ln Lc μ) rfl ?_
    rw [if_pos (show o = (-1) from hm)]
    refine am_g 2 23 [some (.ref 14), some (.int o)] [.ref 15] (hG σ sr ln Lc μ) rfl ?_
    refine am_call (y := 22) (vs := [.ref 15]) (rest := []) (v := (some (.int 1))) (h1 := (hG σ sr ln Lc μ)) rfl rfl rfl (sp_X3_isFull_y (σ := σ) (μ := μ) (d + 1) hK hK8 h8) ?_
    refine am_g 2 31 [some (.ref 14), some (.int o)] [.int (-4)] (hG σ sr ln Lc μ) rfl ?_
    exact am_ret2 rfl rfl rfl rfl rfl
  · have h2 := ho.resolve_left hm
    refine am_g 3 (if o = (-1) then 19 else 5) [some (.ref 14), some (.int o)] [] (hG σ sr ln Lc μ) rfl ?_
    rw [if_neg (show ¬ o = (-1) from hm)]
    refine am_g 3 10 [some (.ref 14), some (.int o)] [.int o, .ref 15] (hG σ sr ln Lc μ) rfl ?_
    refine am_call (y := 21) (vs := [.ref 15, .int o]) (rest := []) (v := (some (.int 1))) (h1 := (hG σ sr ln Lc μ)) rfl rfl rfl (sp_X3_isTold (σ := σ) (μ := μ) (d + 1) hK hK8 _ h2) ?_
    refine am_g 3 23 [some (.ref 14), some (.int o)] [.ref 15] (hG σ sr ln Lc μ) rfl ?_
    refine am_call (y := 22) (vs := [.ref 15]) (rest := []) (v := (some (.int 1))) (h1 := (hG σ sr ln Lc μ)) rfl rfl rfl (sp_X3_isFull_y (σ := σ) (μ := μ) (d + 1) hK hK8 h8) ?_
    refine am_g 2 31 [some (.ref 14), some (.int o)] [.int (-4)] (hG σ sr ln Lc μ) rfl ?_
    exact am_ret2 rfl rfl rfl rfl rfl
theorem sp_X11_kind_ok (d : Nat) {K : Nat} (hK : σ 5 0 = nI K) (hK8 : K ≤ 8) (o : Int32) (ho : o = -1 ∨ am_in o K = true) (h8 : K < 8) : am_X xs LL (d + 3) 88 [.ref 14, .int o] (hG σ sr ln Lc μ) (some (.int (σ 5 0))) (hG (am_us (am_up (am_us (am_us σ 10 0) 20 0) 1 (upd (σ 1) K o)) 5 ((σ 5 0) + 1)) sr ln Lc μ) := by
  refine am_XR (d := d + 2) (C := cd_X11_kind) (L := [some (.ref 14), some (.int o)]) rfl rfl rfl rfl ?_
  by_cases hm : o = -1
  · skip
    refine am_g 3 (if o = (-1) then 19 else 5) [some (.ref 14), some (.int o)] [] (hG σ sr ln Lc μ) rfl ?_
    rw [if_pos (show o = (-1) from hm)]
    refine am_g 2 23 [some (.ref 14), some (.int o)] [.ref 15] (hG σ sr ln Lc μ) rfl ?_
    refine am_call (y := 22) (vs := [.ref 15]) (rest := []) (v := (some (.int 0))) (h1 := (hG σ sr ln Lc μ)) rfl rfl rfl (sp_X3_isFull_n (σ := σ) (μ := μ) (d + 1) hK hK8 h8) ?_
    refine am_g 2 33 [some (.ref 14), some (.int o)] [.ref 14] (hG σ sr ln Lc μ) rfl ?_
    refine am_call (y := 131) (vs := [.ref 14]) (rest := []) (v := none) (h1 := (hG (am_us (am_us σ 10 0) 20 0) sr ln Lc μ)) rfl rfl rfl (sp_X11_forgetSets (σ := σ) (μ := μ) (d + 1)) ?_
    refine am_g 3 41 [some (.ref 14), some (.int o)] [.int o, .ref 15] (hG (am_us (am_us σ 10 0) 20 0) sr ln Lc μ) rfl ?_
    refine am_call (y := 23) (vs := [.ref 15, .int o]) (rest := []) (v := (some (.int (σ 5 0)))) (h1 := (hG (am_us (am_up (am_us (am_us σ 10 0) 20 0) 1 (upd (σ 1) K o)) 5 ((σ 5 0) + 1)) sr ln Lc μ)) rfl rfl rfl (sp_X3_tell (σ := (am_us (am_us σ 10 0) 20 0)) (μ := μ) d hK hK8 h8 _) ?_
    exact am_ret2 rfl rfl rfl rfl rfl
  · have h2 := ho.resolve_left hm
    refine am_g 3 (if o = (-1) then 19 else 5) [some (.ref 14), some (.int o)] [] (hG σ sr ln Lc μ) rfl ?_
    rw [if_neg (show ¬ o = (-1) from hm)]
    refine am_g 3 10 [some (.ref 14), some (.int o)] [.int o, .ref 15] (hG σ sr ln Lc μ) rfl ?_
    refine am_call (y := 21) (vs := [.ref 15, .int o]) (rest := []) (v := (some (.int 1))) (h1 := (hG σ sr ln Lc μ)) rfl rfl rfl (sp_X3_isTold (σ := σ) (μ := μ) (d + 1) hK hK8 _ h2) ?_
    refine am_g 3 23 [some (.ref 14), some (.int o)] [.ref 15] (hG σ sr ln Lc μ) rfl ?_
    refine am_call (y := 22) (vs := [.ref 15]) (rest := []) (v := (some (.int 0))) (h1 := (hG σ sr ln Lc μ)) rfl rfl rfl (sp_X3_isFull_n (σ := σ) (μ := μ) (d + 1) hK hK8 h8) ?_
    refine am_g 2 33 [some (.ref 14), some (.int o)] [.ref 14] (hG σ sr ln Lc μ) rfl ?_
    refine am_call (y := 131) (vs := [.ref 14]) (rest := []) (v := none) (h1 := (hG (am_us (am_us σ 10 0) 20 0) sr ln Lc μ)) rfl rfl rfl (sp_X11_forgetSets (σ := σ) (μ := μ) (d + 1)) ?_
    refine am_g 3 41 [some (.ref 14), some (.int o)] [.int o, .ref 15] (hG (am_us (am_us σ 10 0) 20 0) sr ln Lc μ) rfl ?_
    refine am_call (y := 23) (vs := [.ref 15, .int o]) (rest := []) (v := (some (.int (σ 5 0)))) (h1 := (hG (am_us (am_up (am_us (am_us σ 10 0) 20 0) 1 (upd (σ 1) K o)) 5 ((σ 5 0) + 1)) sr ln Lc μ)) rfl rfl rfl (sp_X3_tell (σ := (am_us (am_us σ 10 0) 20 0)) (μ := μ) d hK hK8 h8 _) ?_
    exact am_ret2 rfl rfl rfl rfl rfl
theorem sp_X3_setOwn (d : Nat) (k a : Nat) (fn : Int32) (hk : k < 8) (ha : a < 3) : am_X xs LL (d + 1) 24 [.ref 15, .int (nI k), .int (nI a), .int fn] (hG σ sr ln Lc μ) (some (.int (σ 2 (k * 3 + a)))) (hG (am_up σ 2 (upd (σ 2) (k * 3 + a) fn)) sr ln Lc μ) := by
  refine am_XR (d := d + 0) (C := cd_X3_setOwn) (L := [some (.ref 15), some (.int (nI k)), some (.int (nI a)), some (.int fn), none, none]) rfl rfl rfl rfl ?_
  refine am_g 8 (if (nI k) < 0 then 35 else 11) [some (.ref 15), some (.int (nI k)), some (.int (nI a)), some (.int fn), some (.int (((nI k) * 3) + (nI a))), none] [] (hG σ sr ln Lc μ) rfl ?_
  rw [if_neg (show ¬ (nI k) < 0 from (am_dnlt (a := k) (b := 0) (rfl) (rfl) (by omega) (by omega) (by omega)))]
  refine am_g 2 (if (nI a) < 0 then 35 else 15) [some (.ref 15), some (.int (nI k)), some (.int (nI a)), some (.int fn), some (.int (((nI k) * 3) + (nI a))), none] [] (hG σ sr ln Lc μ) rfl ?_
  rw [if_neg (show ¬ (nI a) < 0 from (am_dnlt (a := a) (b := 0) (rfl) (rfl) (by omega) (by omega) (by omega)))]
  refine am_g 3 (if 3 ≤ (nI a) then 35 else 20) [some (.ref 15), some (.int (nI k)), some (.int (nI a)), some (.int fn), some (.int (((nI k) * 3) + (nI a))), none] [] (hG σ sr ln Lc μ) rfl ?_
  rw [if_neg (show ¬ 3 ≤ (nI a) from (am_dnle (a := 3) (b := a) (rfl) (rfl) (by omega) (by omega) (by omega)))]
  refine am_g 2 (if (((nI k) * 3) + (nI a)) < 0 then 35 else 25) [some (.ref 15), some (.int (nI k)), some (.int (nI a)), some (.int fn), some (.int (((nI k) * 3) + (nI a))), none] [] (hG σ sr ln Lc μ) rfl ?_
  rw [if_neg (show ¬ (((nI k) * 3) + (nI a)) < 0 from (am_dnlt (a := ((k * 3) + a)) (b := 0) (show (((nI k) * (nI 3)) + (nI a)) = nI ((k * 3) + a) from by simp only [nI_mul2, nI_add]) (rfl) (by omega) (by omega) (by omega)))]
  refine am_g 5 (if (((nI k) * 3) + (nI a)) < 24 then 37 else 35) [some (.ref 15), some (.int (nI k)), some (.int (nI a)), some (.int fn), some (.int (((nI k) * 3) + (nI a))), none] [] (hG σ sr ln Lc μ) rfl ?_
  rw [if_pos (show (((nI k) * 3) + (nI a)) < 24 from (am_dlt (a := ((k * 3) + a)) (b := 24) (show (((nI k) * (nI 3)) + (nI a)) = nI ((k * 3) + a) from by simp only [nI_mul2, nI_add]) (rfl) (by omega) (by omega) (by omega)))]
  refine am_g 3 43 [some (.ref 15), some (.int (nI k)), some (.int (nI a)), some (.int fn), some (.int (((nI k) * 3) + (nI a))), none] [.int (((nI k) * 3) + (nI a)), .ref 17] (hG σ sr ln Lc μ) rfl ?_
  refine am_ialdR (n := 24) (f := (σ 2)) (k := ((k * 3) + a)) rfl rfl (show (((nI k) * (nI 3)) + (nI a)) = nI ((k * 3) + a) from by simp only [nI_mul2, nI_add]) (by omega) (by decide) ?_
  refine am_g 5 53 [some (.ref 15), some (.int (nI k)), some (.int (nI a)), some (.int fn), some (.int (((nI k) * 3) + (nI a))), some (.int (σ 2 ((k * 3) + a)))] [.int fn, .int (((nI k) * 3) + (nI a)), .ref 17] (hG σ sr ln Lc μ) rfl ?_
  refine am_iastR (n := 24) (f := (σ 2)) (k := ((k * 3) + a)) (h1 := (hG (am_up σ 2 (upd (σ 2) ((k * 3) + a) fn)) sr ln Lc μ)) rfl rfl (show (((nI k) * (nI 3)) + (nI a)) = nI ((k * 3) + a) from by simp only [nI_mul2, nI_add]) (by omega) (by decide) rfl ?_
  refine am_g 1 56 [some (.ref 15), some (.int (nI k)), some (.int (nI a)), some (.int fn), some (.int (((nI k) * 3) + (nI a))), some (.int (σ 2 ((k * 3) + a)))] [.int (σ 2 ((k * 3) + a))] (hG (am_up σ 2 (upd (σ 2) ((k * 3) + a) fn)) sr ln Lc μ) rfl ?_
  exact am_ret2 rfl rfl rfl rfl rfl
theorem sp_X11_has_ok (d : Nat) {K : Nat} (hK : σ 5 0 = nI K) (hK8 : K ≤ 8) (k a : Nat) (fn : Int32) (hk : k < K) (ha : a < 3) (hf : am_in1 fn 6 = true) : am_X xs LL (d + 3) 89 [.ref 14, .int (nI k), .int (nI a), .int fn] (hG σ sr ln Lc μ) (some (.int (σ 2 (k * 3 + a)))) (hG (am_up (am_us (am_us σ 10 0) 20 0) 2 (upd (σ 2) (k * 3 + a) fn)) sr ln Lc μ) := by
  refine am_XR (d := d + 2) (C := cd_X11_has) (L := [some (.ref 14), some (.int (nI k)), some (.int (nI a)), some (.int fn)]) rfl rfl rfl rfl ?_
  refine am_g 3 5 [some (.ref 14), some (.int (nI k)), some (.int (nI a)), some (.int fn)] [.int (nI k), .ref 15] (hG σ sr ln Lc μ) rfl ?_
  refine am_call (y := 21) (vs := [.ref 15, .int (nI k)]) (rest := []) (v := (some (.int 1))) (h1 := (hG σ sr ln Lc μ)) rfl rfl rfl (sp_X3_isTold (σ := σ) (μ := μ) (d + 1) hK hK8 _ (am_in_of_nI hk (by omega))) ?_
  refine am_g 4 14 [some (.ref 14), some (.int (nI k)), some (.int (nI a)), some (.int fn)] [.int 2, .int 0, .int (nI a)] (hG σ sr ln Lc μ) rfl ?_
  refine am_call (y := 122) (vs := [.int (nI a), .int 0, .int 2]) (rest := []) (v := (some (.int 1))) (h1 := (hG σ sr ln Lc μ)) rfl rfl rfl (sp_X11_isWithin_b (d + 1) _ _ _ _ ((am_wi (by decide)).trans (am_in_of_nI ha (by omega)))) ?_
  refine am_g 4 23 [some (.ref 14), some (.int (nI k)), some (.int (nI a)), some (.int fn)] [.int 5, .int (-1), .int fn] (hG σ sr ln Lc μ) rfl ?_
  refine am_call (y := 122) (vs := [.int fn, .int (-1), .int 5]) (rest := []) (v := (some (.int 1))) (h1 := (hG σ sr ln Lc μ)) rfl rfl rfl (sp_X11_isWithin_b (d + 1) _ _ _ _ ((am_wi1 (by decide)).trans hf)) ?_
  refine am_g 2 33 [some (.ref 14), some (.int (nI k)), some (.int (nI a)), some (.int fn)] [.ref 14] (hG σ sr ln Lc μ) rfl ?_
  refine am_call (y := 131) (vs := [.ref 14]) (rest := []) (v := none) (h1 := (hG (am_us (am_us σ 10 0) 20 0) sr ln Lc μ)) rfl rfl rfl (sp_X11_forgetSets (σ := σ) (μ := μ) (d + 1)) ?_
  refine am_g 5 43 [some (.ref 14), some (.int (nI k)), some (.int (nI a)), some (.int fn)] [.int fn, .int (nI a), .int (nI k), .ref 15] (hG (am_us (am_us σ 10 0) 20 0) sr ln Lc μ) rfl ?_
  refine am_call (y := 24) (vs := [.ref 15, .int (nI k), .int (nI a), .int fn]) (rest := []) (v := (some (.int (σ 2 (k * 3 + a))))) (h1 := (hG (am_up (am_us (am_us σ 10 0) 20 0) 2 (upd (σ 2) (k * 3 + a) fn)) sr ln Lc μ)) rfl rfl rfl (sp_X3_setOwn (σ := (am_us (am_us σ 10 0) 20 0)) (μ := μ) (d + 1) k a _ (by omega) ha) ?_
  exact am_ret2 rfl rfl rfl rfl rfl
theorem sp_X11_has_bad (d : Nat) {K : Nat} (hK : σ 5 0 = nI K) (hK8 : K ≤ 8) (k a fn : Int32) (hbad : (am_in k K && (am_in a 3 && am_in1 fn 6)) = false) : am_X xs LL (d + 3) 89 [.ref 14, .int k, .int a, .int fn] (hG σ sr ln Lc μ) (some (.int (-5))) (hG σ sr ln Lc μ) := by
  refine am_XR (d := d + 2) (C := cd_X11_has) (L := [some (.ref 14), some (.int k), some (.int a), some (.int fn)]) rfl rfl rfl rfl ?_
  refine am_g 3 5 [some (.ref 14), some (.int k), some (.int a), some (.int fn)] [.int k, .ref 15] (hG σ sr ln Lc μ) rfl ?_
  cases e1 : am_in k K with
  | false =>
    refine am_call (y := 21) (vs := [.ref 15, .int k]) (rest := []) (v := (some (.int 0))) (h1 := (hG σ sr ln Lc μ)) rfl rfl rfl (sp_X3_isTold (σ := σ) (μ := μ) (d + 1) hK hK8 _ e1) ?_
    refine am_g 2 31 [some (.ref 14), some (.int k), some (.int a), some (.int fn)] [.int (-5)] (hG σ sr ln Lc μ) rfl ?_
    exact am_ret2 rfl rfl rfl rfl rfl
  | true =>
    refine am_call (y := 21) (vs := [.ref 15, .int k]) (rest := []) (v := (some (.int 1))) (h1 := (hG σ sr ln Lc μ)) rfl rfl rfl (sp_X3_isTold (σ := σ) (μ := μ) (d + 1) hK hK8 _ e1) ?_
    refine am_g 4 14 [some (.ref 14), some (.int k), some (.int a), some (.int fn)] [.int 2, .int 0, .int a] (hG σ sr ln Lc μ) rfl ?_
    cases e2 : decide (0 ≤ a ∧ a ≤ 2) with
    | false =>
      refine am_call (y := 122) (vs := [.int a, .int 0, .int 2]) (rest := []) (v := (some (.int 0))) (h1 := (hG σ sr ln Lc μ)) rfl rfl rfl (sp_X11_isWithin_b (d + 1) _ _ _ _ e2) ?_
      refine am_g 2 31 [some (.ref 14), some (.int k), some (.int a), some (.int fn)] [.int (-5)] (hG σ sr ln Lc μ) rfl ?_
      exact am_ret2 rfl rfl rfl rfl rfl
    | true =>
      refine am_call (y := 122) (vs := [.int a, .int 0, .int 2]) (rest := []) (v := (some (.int 1))) (h1 := (hG σ sr ln Lc μ)) rfl rfl rfl (sp_X11_isWithin_b (d + 1) _ _ _ _ e2) ?_
      refine am_g 4 23 [some (.ref 14), some (.int k), some (.int a), some (.int fn)] [.int 5, .int (-1), .int fn] (hG σ sr ln Lc μ) rfl ?_
      cases e3 : decide ((-1) ≤ fn ∧ fn ≤ 5) with
      | false =>
        refine am_call (y := 122) (vs := [.int fn, .int (-1), .int 5]) (rest := []) (v := (some (.int 0))) (h1 := (hG σ sr ln Lc μ)) rfl rfl rfl (sp_X11_isWithin_b (d + 1) _ _ _ _ e3) ?_
        refine am_g 2 31 [some (.ref 14), some (.int k), some (.int a), some (.int fn)] [.int (-5)] (hG σ sr ln Lc μ) rfl ?_
        exact am_ret2 rfl rfl rfl rfl rfl
      | true =>
        refine am_call (y := 122) (vs := [.int fn, .int (-1), .int 5]) (rest := []) (v := (some (.int 1))) (h1 := (hG σ sr ln Lc μ)) rfl rfl rfl (sp_X11_isWithin_b (d + 1) _ _ _ _ e3) ?_
        refine am_g 1 32 [some (.ref 14), some (.int k), some (.int a), some (.int fn)] [] (hG σ sr ln Lc μ) rfl ?_
        rw [am_wi (n := 3) (by decide)] at e2
        rw [am_wi1 (n := 6) (by decide)] at e3
        rw [e1, e2, e3] at hbad
        cases hbad
end XK
