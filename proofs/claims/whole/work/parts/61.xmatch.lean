/-! the tape matched with the forms -/
section TQ
variable {xs : Nat → Int32} {LL : Nat} {σ μ : Nat → Nat → Int32} {sr : Nat → Nat} {ln : Nat → Nat → Int32} {Lc : Nat}
theorem sp_X9_suits_33 (d : Nat) (v : Int32) (h : am_H) {w : Bool} (eb : pu_su 33 v = w) : am_X xs LL (d + 2) 75 [.int v, .int 33] h (some (.int (am_b2 w))) h := by
  refine am_XR (d := d + 1) (C := cd_X9_suits) (L := [some (.int v), some (.int 33)]) rfl rfl rfl rfl ?_
  refine am_g 5 (if v = 33 then 84 else 88) [some (.int v), some (.int 33)] [] h rfl (am_brR (fun c1 => ?_) (fun c1 => ?_))
  · refine am_g 2 89 [some (.int v), some (.int 33)] [.int 1] h rfl ?_
    exact am_ret2 rfl rfl rfl (am_b2Y (P := v = nI 33) eb c1) rfl
  · refine am_g 1 89 [some (.int v), some (.int 33)] [.int 0] h rfl ?_
    exact am_ret2 rfl rfl rfl (am_b2N (P := v = nI 33) eb c1) rfl
theorem sp_X9_suits_40 (d : Nat) (v : Int32) (h : am_H) {w : Bool} (eb : pu_su 40 v = w) : am_X xs LL (d + 2) 75 [.int v, .int 40] h (some (.int (am_b2 w))) h := by
  refine am_XR (d := d + 1) (C := cd_X9_suits) (L := [some (.int v), some (.int 40)]) rfl rfl rfl rfl ?_
  refine am_g 5 (if v = 40 then 84 else 88) [some (.int v), some (.int 40)] [] h rfl (am_brR (fun c1 => ?_) (fun c1 => ?_))
  · refine am_g 2 89 [some (.int v), some (.int 40)] [.int 1] h rfl ?_
    exact am_ret2 rfl rfl rfl (am_b2Y (P := v = nI 40) eb c1) rfl
  · refine am_g 1 89 [some (.int v), some (.int 40)] [.int 0] h rfl ?_
    exact am_ret2 rfl rfl rfl (am_b2N (P := v = nI 40) eb c1) rfl
theorem sp_X9_suits_41 (d : Nat) (v : Int32) (h : am_H) {w : Bool} (eb : pu_su 41 v = w) : am_X xs LL (d + 2) 75 [.int v, .int 41] h (some (.int (am_b2 w))) h := by
  refine am_XR (d := d + 1) (C := cd_X9_suits) (L := [some (.int v), some (.int 41)]) rfl rfl rfl rfl ?_
  refine am_g 5 (if v = 41 then 84 else 88) [some (.int v), some (.int 41)] [] h rfl (am_brR (fun c1 => ?_) (fun c1 => ?_))
  · refine am_g 2 89 [some (.int v), some (.int 41)] [.int 1] h rfl ?_
    exact am_ret2 rfl rfl rfl (am_b2Y (P := v = nI 41) eb c1) rfl
  · refine am_g 1 89 [some (.int v), some (.int 41)] [.int 0] h rfl ?_
    exact am_ret2 rfl rfl rfl (am_b2N (P := v = nI 41) eb c1) rfl
theorem sp_X9_suits_46 (d : Nat) (v : Int32) (h : am_H) {w : Bool} (eb : pu_su 46 v = w) : am_X xs LL (d + 2) 75 [.int v, .int 46] h (some (.int (am_b2 w))) h := by
  refine am_XR (d := d + 1) (C := cd_X9_suits) (L := [some (.int v), some (.int 46)]) rfl rfl rfl rfl ?_
  refine am_g 5 (if v = 46 then 84 else 88) [some (.int v), some (.int 46)] [] h rfl (am_brR (fun c1 => ?_) (fun c1 => ?_))
  · refine am_g 2 89 [some (.int v), some (.int 46)] [.int 1] h rfl ?_
    exact am_ret2 rfl rfl rfl (am_b2Y (P := v = nI 46) eb c1) rfl
  · refine am_g 1 89 [some (.int v), some (.int 46)] [.int 0] h rfl ?_
    exact am_ret2 rfl rfl rfl (am_b2N (P := v = nI 46) eb c1) rfl
theorem sp_X9_suits_47 (d : Nat) (v : Int32) (h : am_H) {w : Bool} (eb : pu_su 47 v = w) : am_X xs LL (d + 2) 75 [.int v, .int 47] h (some (.int (am_b2 w))) h := by
  refine am_XR (d := d + 1) (C := cd_X9_suits) (L := [some (.int v), some (.int 47)]) rfl rfl rfl rfl ?_
  refine am_g 5 (if v = 47 then 84 else 88) [some (.int v), some (.int 47)] [] h rfl (am_brR (fun c1 => ?_) (fun c1 => ?_))
  · refine am_g 2 89 [some (.int v), some (.int 47)] [.int 1] h rfl ?_
    exact am_ret2 rfl rfl rfl (am_b2Y (P := v = nI 47) eb c1) rfl
  · refine am_g 1 89 [some (.int v), some (.int 47)] [.int 0] h rfl ?_
    exact am_ret2 rfl rfl rfl (am_b2N (P := v = nI 47) eb c1) rfl
theorem sp_X9_suits_50 (d : Nat) (v : Int32) (h : am_H) {w : Bool} (eb : pu_su 50 v = w) : am_X xs LL (d + 2) 75 [.int v, .int 50] h (some (.int (am_b2 w))) h := by
  refine am_XR (d := d + 1) (C := cd_X9_suits) (L := [some (.int v), some (.int 50)]) rfl rfl rfl rfl ?_
  have eb : decide (48 ≤ v ∧ v ≤ 50) = w := eb
  cases w with
  | false =>
    refine am_g 5 75 [some (.int v), some (.int 50)] [.int 50, .int 48, .int v] h rfl ?_
    refine am_call (y := 122) (vs := [.int v, .int 48, .int 50]) (rest := []) (v := (some (.int 0))) (h1 := h) rfl rfl rfl (sp_X11_isWithin_b d _ _ _ _ eb) ?_
    exact am_ret2 rfl rfl rfl rfl rfl
  | true =>
    refine am_g 5 75 [some (.int v), some (.int 50)] [.int 50, .int 48, .int v] h rfl ?_
    refine am_call (y := 122) (vs := [.int v, .int 48, .int 50]) (rest := []) (v := (some (.int 1))) (h1 := h) rfl rfl rfl (sp_X11_isWithin_b d _ _ _ _ eb) ?_
    exact am_ret2 rfl rfl rfl rfl rfl
theorem sp_X9_suits_55 (d : Nat) (v : Int32) (h : am_H) {w : Bool} (eb : pu_su 55 v = w) : am_X xs LL (d + 2) 75 [.int v, .int 55] h (some (.int (am_b2 w))) h := by
  refine am_XR (d := d + 1) (C := cd_X9_suits) (L := [some (.int v), some (.int 55)]) rfl rfl rfl rfl ?_
  have eb : decide (48 ≤ v ∧ v ≤ 55) = w := eb
  cases w with
  | false =>
    refine am_g 5 66 [some (.int v), some (.int 55)] [.int 55, .int 48, .int v] h rfl ?_
    refine am_call (y := 122) (vs := [.int v, .int 48, .int 55]) (rest := []) (v := (some (.int 0))) (h1 := h) rfl rfl rfl (sp_X11_isWithin_b d _ _ _ _ eb) ?_
    exact am_ret2 rfl rfl rfl rfl rfl
  | true =>
    refine am_g 5 66 [some (.int v), some (.int 55)] [.int 55, .int 48, .int v] h rfl ?_
    refine am_call (y := 122) (vs := [.int v, .int 48, .int 55]) (rest := []) (v := (some (.int 1))) (h1 := h) rfl rfl rfl (sp_X11_isWithin_b d _ _ _ _ eb) ?_
    exact am_ret2 rfl rfl rfl rfl rfl
theorem sp_X9_suits_58 (d : Nat) (v : Int32) (h : am_H) {w : Bool} (eb : pu_su 58 v = w) : am_X xs LL (d + 2) 75 [.int v, .int 58] h (some (.int (am_b2 w))) h := by
  refine am_XR (d := d + 1) (C := cd_X9_suits) (L := [some (.int v), some (.int 58)]) rfl rfl rfl rfl ?_
  refine am_g 5 (if v = 58 then 84 else 88) [some (.int v), some (.int 58)] [] h rfl (am_brR (fun c1 => ?_) (fun c1 => ?_))
  · refine am_g 2 89 [some (.int v), some (.int 58)] [.int 1] h rfl ?_
    exact am_ret2 rfl rfl rfl (am_b2Y (P := v = nI 58) eb c1) rfl
  · refine am_g 1 89 [some (.int v), some (.int 58)] [.int 0] h rfl ?_
    exact am_ret2 rfl rfl rfl (am_b2N (P := v = nI 58) eb c1) rfl
theorem sp_X9_suits_61 (d : Nat) (v : Int32) (h : am_H) {w : Bool} (eb : pu_su 61 v = w) : am_X xs LL (d + 2) 75 [.int v, .int 61] h (some (.int (am_b2 w))) h := by
  refine am_XR (d := d + 1) (C := cd_X9_suits) (L := [some (.int v), some (.int 61)]) rfl rfl rfl rfl ?_
  refine am_g 5 (if v = 61 then 84 else 88) [some (.int v), some (.int 61)] [] h rfl (am_brR (fun c1 => ?_) (fun c1 => ?_))
  · refine am_g 2 89 [some (.int v), some (.int 61)] [.int 1] h rfl ?_
    exact am_ret2 rfl rfl rfl (am_b2Y (P := v = nI 61) eb c1) rfl
  · refine am_g 1 89 [some (.int v), some (.int 61)] [.int 0] h rfl ?_
    exact am_ret2 rfl rfl rfl (am_b2N (P := v = nI 61) eb c1) rfl
theorem sp_X9_suits_120 (d : Nat) (v : Int32) (h : am_H) {w : Bool} (eb : pu_su 120 v = w) : am_X xs LL (d + 2) 75 [.int v, .int 120] h (some (.int (am_b2 w))) h := by
  refine am_XR (d := d + 1) (C := cd_X9_suits) (L := [some (.int v), some (.int 120)]) rfl rfl rfl rfl ?_
  have eb : decide (97 ≤ v ∧ v ≤ 116) = w := eb
  cases w with
  | false =>
    refine am_g 5 57 [some (.int v), some (.int 120)] [.int 116, .int 97, .int v] h rfl ?_
    refine am_call (y := 122) (vs := [.int v, .int 97, .int 116]) (rest := []) (v := (some (.int 0))) (h1 := h) rfl rfl rfl (sp_X11_isWithin_b d _ _ _ _ eb) ?_
    exact am_ret2 rfl rfl rfl rfl rfl
  | true =>
    refine am_g 5 57 [some (.int v), some (.int 120)] [.int 116, .int 97, .int v] h rfl ?_
    refine am_call (y := 122) (vs := [.int v, .int 97, .int 116]) (rest := []) (v := (some (.int 1))) (h1 := h) rfl rfl rfl (sp_X11_isWithin_b d _ _ _ _ eb) ?_
    exact am_ret2 rfl rfl rfl rfl rfl
theorem sp_X9_suits_121 (d : Nat) (v : Int32) (h : am_H) {w : Bool} (eb : pu_su 121 v = w) : am_X xs LL (d + 2) 75 [.int v, .int 121] h (some (.int (am_b2 w))) h := by
  refine am_XR (d := d + 1) (C := cd_X9_suits) (L := [some (.int v), some (.int 121)]) rfl rfl rfl rfl ?_
  have eb : decide (97 ≤ v ∧ v ≤ 116) = w := eb
  cases w with
  | false =>
    refine am_g 5 57 [some (.int v), some (.int 121)] [.int 116, .int 97, .int v] h rfl ?_
    refine am_call (y := 122) (vs := [.int v, .int 97, .int 116]) (rest := []) (v := (some (.int 0))) (h1 := h) rfl rfl rfl (sp_X11_isWithin_b d _ _ _ _ eb) ?_
    exact am_ret2 rfl rfl rfl rfl rfl
  | true =>
    refine am_g 5 57 [some (.int v), some (.int 121)] [.int 116, .int 97, .int v] h rfl ?_
    refine am_call (y := 122) (vs := [.int v, .int 97, .int 116]) (rest := []) (v := (some (.int 1))) (h1 := h) rfl rfl rfl (sp_X11_isWithin_b d _ _ _ _ eb) ?_
    exact am_ret2 rfl rfl rfl rfl rfl
theorem sp_X9_suits_122 (d : Nat) (v : Int32) (h : am_H) {w : Bool} (eb : pu_su 122 v = w) : am_X xs LL (d + 2) 75 [.int v, .int 122] h (some (.int (am_b2 w))) h := by
  refine am_XR (d := d + 1) (C := cd_X9_suits) (L := [some (.int v), some (.int 122)]) rfl rfl rfl rfl ?_
  have eb : decide (97 ≤ v ∧ v ≤ 116) = w := eb
  cases w with
  | false =>
    refine am_g 5 57 [some (.int v), some (.int 122)] [.int 116, .int 97, .int v] h rfl ?_
    refine am_call (y := 122) (vs := [.int v, .int 97, .int 116]) (rest := []) (v := (some (.int 0))) (h1 := h) rfl rfl rfl (sp_X11_isWithin_b d _ _ _ _ eb) ?_
    exact am_ret2 rfl rfl rfl rfl rfl
  | true =>
    refine am_g 5 57 [some (.int v), some (.int 122)] [.int 116, .int 97, .int v] h rfl ?_
    refine am_call (y := 122) (vs := [.int v, .int 97, .int 116]) (rest := []) (v := (some (.int 1))) (h1 := h) rfl rfl rfl (sp_X11_isWithin_b d _ _ _ _ eb) ?_
    exact am_ret2 rfl rfl rfl rfl rfl
theorem sp_X9_matched_1 (d : Nat) {T : Nat} (hT : σ 8 0 = nI T) (hT20 : T ≤ 20) : am_X xs LL (d + 5) 76 [.ref 20, .ref 1] (hG σ sr ln Lc μ) (some (.int (nI (pu_mt (σ 7) T (pu_fm 1) 0)))) (hG σ sr ln Lc μ) := by
  refine am_XR (d := d + 4) (C := cd_X9_matched) (L := [some (.ref 20), some (.ref 1), none]) rfl rfl rfl rfl ?_
  refine am_g 4 4 [some (.ref 20), some (.ref 1), some (.int 0)] [.ref 1, .int 0] (hG σ sr ln Lc μ) rfl ?_
  refine am_call (y := 212) (vs := [.ref 1]) (rest := [.int 0]) (v := (some (.int 5))) (h1 := (hG σ sr ln Lc μ)) rfl rfl rfl (sp_J0_length_8abf5_1 (d + 2) _) ?_
  refine am_g 4 15 [some (.ref 20), some (.ref 1), some (.int 0)] [.int (σ 8 0), .int 0] (hG σ sr ln Lc μ) rfl ?_
  rw [show (σ 8 0) = (nI T) from hT]
  refine am_g 1 (if (nI T) ≤ 0 then 40 else 18) [some (.ref 20), some (.ref 1), some (.int 0)] [] (hG σ sr ln Lc μ) rfl (am_brR (fun c1 => ?_) (fun c1 => ?_))
  · skip
    refine am_g 1 41 [some (.ref 20), some (.ref 1), some (.int 0)] [.int 0] (hG σ sr ln Lc μ) rfl ?_
    exact am_ret2 rfl rfl rfl (congrArg (fun z => some (Value.int (nI z))) (show 0 = pu_mt (σ 7) T (pu_fm 1) 0 from (if_pos c1 : pu_mt (σ 7) T (pu_fm 1) 0 = 0).symm)) rfl
  · skip
    refine am_g 2 20 [some (.ref 20), some (.ref 1), some (.int 0)] [.int 0, .ref 20] (hG σ sr ln Lc μ) rfl ?_
    refine am_call (y := 73) (vs := [.ref 20, .int 0]) (rest := []) (v := (some (.int (σ 7 0)))) (h1 := (hG σ sr ln Lc μ)) rfl rfl rfl (sp_X9_byteAt_lo (d + 3) hT hT20 0 (nI_lt_of (Int32.not_le.mp c1) hT20 (by decide))) ?_
    refine am_g 2 25 [some (.ref 20), some (.ref 1), some (.int 0)] [.int 0, .ref 1, .int (σ 7 0)] (hG σ sr ln Lc μ) rfl ?_
    refine am_call (y := 213) (vs := [.ref 1, .int 0]) (rest := [.int (σ 7 0)]) (v := (some (.int 120))) (h1 := (hG σ sr ln Lc μ)) rfl rfl rfl (sp_J0_charAt_5068e_1_0 d _) ?_
    cases e2 : pu_su 120 (σ 7 0) with
    | false =>
      refine am_call (y := 75) (vs := [.int (σ 7 0), .int 120]) (rest := []) (v := (some (.int 0))) (h1 := (hG σ sr ln Lc μ)) rfl rfl rfl (sp_X9_suits_120 (d + 2) _ _ e2) ?_
      refine am_g 2 41 [some (.ref 20), some (.ref 1), some (.int 0)] [.int 0] (hG σ sr ln Lc μ) rfl ?_
      exact am_ret2 rfl rfl rfl (congrArg (fun z => some (Value.int (nI z))) (show 0 = pu_mt (σ 7) T (pu_fm 1) 0 from ((if_neg c1).trans ((congrArg (fun b => bif b then _ else _) e2).trans (rfl)) : pu_mt (σ 7) T (pu_fm 1) 0 = 0).symm)) rfl
    | true =>
      refine am_call (y := 75) (vs := [.int (σ 7 0), .int 120]) (rest := []) (v := (some (.int 1))) (h1 := (hG σ sr ln Lc μ)) rfl rfl rfl (sp_X9_suits_120 (d + 2) _ _ e2) ?_
      refine am_g 5 4 [some (.ref 20), some (.ref 1), some (.int 1)] [.ref 1, .int 1] (hG σ sr ln Lc μ) rfl ?_
      refine am_call (y := 212) (vs := [.ref 1]) (rest := [.int 1]) (v := (some (.int 5))) (h1 := (hG σ sr ln Lc μ)) rfl rfl rfl (sp_J0_length_8abf5_1 (d + 2) _) ?_
      refine am_g 4 15 [some (.ref 20), some (.ref 1), some (.int 1)] [.int (σ 8 0), .int 1] (hG σ sr ln Lc μ) rfl ?_
      rw [show (σ 8 0) = (nI T) from hT]
      refine am_g 1 (if (nI T) ≤ 1 then 40 else 18) [some (.ref 20), some (.ref 1), some (.int 1)] [] (hG σ sr ln Lc μ) rfl (am_brR (fun c3 => ?_) (fun c3 => ?_))
      · skip
        refine am_g 1 41 [some (.ref 20), some (.ref 1), some (.int 1)] [.int 1] (hG σ sr ln Lc μ) rfl ?_
        exact am_ret2 rfl rfl rfl (congrArg (fun z => some (Value.int (nI z))) (show 1 = pu_mt (σ 7) T (pu_fm 1) 0 from ((if_neg c1).trans ((congrArg (fun b => bif b then _ else _) e2).trans (if_pos c3)) : pu_mt (σ 7) T (pu_fm 1) 0 = 1).symm)) rfl
      · skip
        refine am_g 2 20 [some (.ref 20), some (.ref 1), some (.int 1)] [.int 1, .ref 20] (hG σ sr ln Lc μ) rfl ?_
        refine am_call (y := 73) (vs := [.ref 20, .int 1]) (rest := []) (v := (some (.int (σ 7 1)))) (h1 := (hG σ sr ln Lc μ)) rfl rfl rfl (sp_X9_byteAt_lo (d + 3) hT hT20 1 (nI_lt_of (Int32.not_le.mp c3) hT20 (by decide))) ?_
        refine am_g 2 25 [some (.ref 20), some (.ref 1), some (.int 1)] [.int 1, .ref 1, .int (σ 7 1)] (hG σ sr ln Lc μ) rfl ?_
        refine am_call (y := 213) (vs := [.ref 1, .int 1]) (rest := [.int (σ 7 1)]) (v := (some (.int 61))) (h1 := (hG σ sr ln Lc μ)) rfl rfl rfl (sp_J0_charAt_5068e_1_1 d _) ?_
        cases e4 : pu_su 61 (σ 7 1) with
        | false =>
          refine am_call (y := 75) (vs := [.int (σ 7 1), .int 61]) (rest := []) (v := (some (.int 0))) (h1 := (hG σ sr ln Lc μ)) rfl rfl rfl (sp_X9_suits_61 (d + 2) _ _ e4) ?_
          refine am_g 2 41 [some (.ref 20), some (.ref 1), some (.int 1)] [.int 1] (hG σ sr ln Lc μ) rfl ?_
          exact am_ret2 rfl rfl rfl (congrArg (fun z => some (Value.int (nI z))) (show 1 = pu_mt (σ 7) T (pu_fm 1) 0 from ((if_neg c1).trans ((congrArg (fun b => bif b then _ else _) e2).trans ((if_neg c3).trans ((congrArg (fun b => bif b then _ else _) e4).trans (rfl)))) : pu_mt (σ 7) T (pu_fm 1) 0 = 1).symm)) rfl
        | true =>
          refine am_call (y := 75) (vs := [.int (σ 7 1), .int 61]) (rest := []) (v := (some (.int 1))) (h1 := (hG σ sr ln Lc μ)) rfl rfl rfl (sp_X9_suits_61 (d + 2) _ _ e4) ?_
          refine am_g 5 4 [some (.ref 20), some (.ref 1), some (.int 2)] [.ref 1, .int 2] (hG σ sr ln Lc μ) rfl ?_
          refine am_call (y := 212) (vs := [.ref 1]) (rest := [.int 2]) (v := (some (.int 5))) (h1 := (hG σ sr ln Lc μ)) rfl rfl rfl (sp_J0_length_8abf5_1 (d + 2) _) ?_
          refine am_g 4 15 [some (.ref 20), some (.ref 1), some (.int 2)] [.int (σ 8 0), .int 2] (hG σ sr ln Lc μ) rfl ?_
          rw [show (σ 8 0) = (nI T) from hT]
          refine am_g 1 (if (nI T) ≤ 2 then 40 else 18) [some (.ref 20), some (.ref 1), some (.int 2)] [] (hG σ sr ln Lc μ) rfl (am_brR (fun c5 => ?_) (fun c5 => ?_))
          · skip
            refine am_g 1 41 [some (.ref 20), some (.ref 1), some (.int 2)] [.int 2] (hG σ sr ln Lc μ) rfl ?_
            exact am_ret2 rfl rfl rfl (congrArg (fun z => some (Value.int (nI z))) (show 2 = pu_mt (σ 7) T (pu_fm 1) 0 from ((if_neg c1).trans ((congrArg (fun b => bif b then _ else _) e2).trans ((if_neg c3).trans ((congrArg (fun b => bif b then _ else _) e4).trans (if_pos c5)))) : pu_mt (σ 7) T (pu_fm 1) 0 = 2).symm)) rfl
          · skip
            refine am_g 2 20 [some (.ref 20), some (.ref 1), some (.int 2)] [.int 2, .ref 20] (hG σ sr ln Lc μ) rfl ?_
            refine am_call (y := 73) (vs := [.ref 20, .int 2]) (rest := []) (v := (some (.int (σ 7 2)))) (h1 := (hG σ sr ln Lc μ)) rfl rfl rfl (sp_X9_byteAt_lo (d + 3) hT hT20 2 (nI_lt_of (Int32.not_le.mp c5) hT20 (by decide))) ?_
            refine am_g 2 25 [some (.ref 20), some (.ref 1), some (.int 2)] [.int 2, .ref 1, .int (σ 7 2)] (hG σ sr ln Lc μ) rfl ?_
            refine am_call (y := 213) (vs := [.ref 1, .int 2]) (rest := [.int (σ 7 2)]) (v := (some (.int 121))) (h1 := (hG σ sr ln Lc μ)) rfl rfl rfl (sp_J0_charAt_5068e_1_2 d _) ?_
            cases e6 : pu_su 121 (σ 7 2) with
            | false =>
              refine am_call (y := 75) (vs := [.int (σ 7 2), .int 121]) (rest := []) (v := (some (.int 0))) (h1 := (hG σ sr ln Lc μ)) rfl rfl rfl (sp_X9_suits_121 (d + 2) _ _ e6) ?_
              refine am_g 2 41 [some (.ref 20), some (.ref 1), some (.int 2)] [.int 2] (hG σ sr ln Lc μ) rfl ?_
              exact am_ret2 rfl rfl rfl (congrArg (fun z => some (Value.int (nI z))) (show 2 = pu_mt (σ 7) T (pu_fm 1) 0 from ((if_neg c1).trans ((congrArg (fun b => bif b then _ else _) e2).trans ((if_neg c3).trans ((congrArg (fun b => bif b then _ else _) e4).trans ((if_neg c5).trans ((congrArg (fun b => bif b then _ else _) e6).trans (rfl)))))) : pu_mt (σ 7) T (pu_fm 1) 0 = 2).symm)) rfl
            | true =>
              refine am_call (y := 75) (vs := [.int (σ 7 2), .int 121]) (rest := []) (v := (some (.int 1))) (h1 := (hG σ sr ln Lc μ)) rfl rfl rfl (sp_X9_suits_121 (d + 2) _ _ e6) ?_
              refine am_g 5 4 [some (.ref 20), some (.ref 1), some (.int 3)] [.ref 1, .int 3] (hG σ sr ln Lc μ) rfl ?_
              refine am_call (y := 212) (vs := [.ref 1]) (rest := [.int 3]) (v := (some (.int 5))) (h1 := (hG σ sr ln Lc μ)) rfl rfl rfl (sp_J0_length_8abf5_1 (d + 2) _) ?_
              refine am_g 4 15 [some (.ref 20), some (.ref 1), some (.int 3)] [.int (σ 8 0), .int 3] (hG σ sr ln Lc μ) rfl ?_
              rw [show (σ 8 0) = (nI T) from hT]
              refine am_g 1 (if (nI T) ≤ 3 then 40 else 18) [some (.ref 20), some (.ref 1), some (.int 3)] [] (hG σ sr ln Lc μ) rfl (am_brR (fun c7 => ?_) (fun c7 => ?_))
              · skip
                refine am_g 1 41 [some (.ref 20), some (.ref 1), some (.int 3)] [.int 3] (hG σ sr ln Lc μ) rfl ?_
                exact am_ret2 rfl rfl rfl (congrArg (fun z => some (Value.int (nI z))) (show 3 = pu_mt (σ 7) T (pu_fm 1) 0 from ((if_neg c1).trans ((congrArg (fun b => bif b then _ else _) e2).trans ((if_neg c3).trans ((congrArg (fun b => bif b then _ else _) e4).trans ((if_neg c5).trans ((congrArg (fun b => bif b then _ else _) e6).trans (if_pos c7)))))) : pu_mt (σ 7) T (pu_fm 1) 0 = 3).symm)) rfl
              · skip
                refine am_g 2 20 [some (.ref 20), some (.ref 1), some (.int 3)] [.int 3, .ref 20] (hG σ sr ln Lc μ) rfl ?_
                refine am_call (y := 73) (vs := [.ref 20, .int 3]) (rest := []) (v := (some (.int (σ 7 3)))) (h1 := (hG σ sr ln Lc μ)) rfl rfl rfl (sp_X9_byteAt_lo (d + 3) hT hT20 3 (nI_lt_of (Int32.not_le.mp c7) hT20 (by decide))) ?_
                refine am_g 2 25 [some (.ref 20), some (.ref 1), some (.int 3)] [.int 3, .ref 1, .int (σ 7 3)] (hG σ sr ln Lc μ) rfl ?_
                refine am_call (y := 213) (vs := [.ref 1, .int 3]) (rest := [.int (σ 7 3)]) (v := (some (.int 47))) (h1 := (hG σ sr ln Lc μ)) rfl rfl rfl (sp_J0_charAt_5068e_1_3 d _) ?_
                cases e8 : pu_su 47 (σ 7 3) with
                | false =>
                  refine am_call (y := 75) (vs := [.int (σ 7 3), .int 47]) (rest := []) (v := (some (.int 0))) (h1 := (hG σ sr ln Lc μ)) rfl rfl rfl (sp_X9_suits_47 (d + 2) _ _ e8) ?_
                  refine am_g 2 41 [some (.ref 20), some (.ref 1), some (.int 3)] [.int 3] (hG σ sr ln Lc μ) rfl ?_
                  exact am_ret2 rfl rfl rfl (congrArg (fun z => some (Value.int (nI z))) (show 3 = pu_mt (σ 7) T (pu_fm 1) 0 from ((if_neg c1).trans ((congrArg (fun b => bif b then _ else _) e2).trans ((if_neg c3).trans ((congrArg (fun b => bif b then _ else _) e4).trans ((if_neg c5).trans ((congrArg (fun b => bif b then _ else _) e6).trans ((if_neg c7).trans ((congrArg (fun b => bif b then _ else _) e8).trans (rfl)))))))) : pu_mt (σ 7) T (pu_fm 1) 0 = 3).symm)) rfl
                | true =>
                  refine am_call (y := 75) (vs := [.int (σ 7 3), .int 47]) (rest := []) (v := (some (.int 1))) (h1 := (hG σ sr ln Lc μ)) rfl rfl rfl (sp_X9_suits_47 (d + 2) _ _ e8) ?_
                  refine am_g 5 4 [some (.ref 20), some (.ref 1), some (.int 4)] [.ref 1, .int 4] (hG σ sr ln Lc μ) rfl ?_
                  refine am_call (y := 212) (vs := [.ref 1]) (rest := [.int 4]) (v := (some (.int 5))) (h1 := (hG σ sr ln Lc μ)) rfl rfl rfl (sp_J0_length_8abf5_1 (d + 2) _) ?_
                  refine am_g 4 15 [some (.ref 20), some (.ref 1), some (.int 4)] [.int (σ 8 0), .int 4] (hG σ sr ln Lc μ) rfl ?_
                  rw [show (σ 8 0) = (nI T) from hT]
                  refine am_g 1 (if (nI T) ≤ 4 then 40 else 18) [some (.ref 20), some (.ref 1), some (.int 4)] [] (hG σ sr ln Lc μ) rfl (am_brR (fun c9 => ?_) (fun c9 => ?_))
                  · skip
                    refine am_g 1 41 [some (.ref 20), some (.ref 1), some (.int 4)] [.int 4] (hG σ sr ln Lc μ) rfl ?_
                    exact am_ret2 rfl rfl rfl (congrArg (fun z => some (Value.int (nI z))) (show 4 = pu_mt (σ 7) T (pu_fm 1) 0 from ((if_neg c1).trans ((congrArg (fun b => bif b then _ else _) e2).trans ((if_neg c3).trans ((congrArg (fun b => bif b then _ else _) e4).trans ((if_neg c5).trans ((congrArg (fun b => bif b then _ else _) e6).trans ((if_neg c7).trans ((congrArg (fun b => bif b then _ else _) e8).trans (if_pos c9)))))))) : pu_mt (σ 7) T (pu_fm 1) 0 = 4).symm)) rfl
                  · skip
                    refine am_g 2 20 [some (.ref 20), some (.ref 1), some (.int 4)] [.int 4, .ref 20] (hG σ sr ln Lc μ) rfl ?_
                    refine am_call (y := 73) (vs := [.ref 20, .int 4]) (rest := []) (v := (some (.int (σ 7 4)))) (h1 := (hG σ sr ln Lc μ)) rfl rfl rfl (sp_X9_byteAt_lo (d + 3) hT hT20 4 (nI_lt_of (Int32.not_le.mp c9) hT20 (by decide))) ?_
                    refine am_g 2 25 [some (.ref 20), some (.ref 1), some (.int 4)] [.int 4, .ref 1, .int (σ 7 4)] (hG σ sr ln Lc μ) rfl ?_
                    refine am_call (y := 213) (vs := [.ref 1, .int 4]) (rest := [.int (σ 7 4)]) (v := (some (.int 55))) (h1 := (hG σ sr ln Lc μ)) rfl rfl rfl (sp_J0_charAt_5068e_1_4 d _) ?_
                    cases e10 : pu_su 55 (σ 7 4) with
                    | false =>
                      refine am_call (y := 75) (vs := [.int (σ 7 4), .int 55]) (rest := []) (v := (some (.int 0))) (h1 := (hG σ sr ln Lc μ)) rfl rfl rfl (sp_X9_suits_55 (d + 2) _ _ e10) ?_
                      refine am_g 2 41 [some (.ref 20), some (.ref 1), some (.int 4)] [.int 4] (hG σ sr ln Lc μ) rfl ?_
                      exact am_ret2 rfl rfl rfl (congrArg (fun z => some (Value.int (nI z))) (show 4 = pu_mt (σ 7) T (pu_fm 1) 0 from ((if_neg c1).trans ((congrArg (fun b => bif b then _ else _) e2).trans ((if_neg c3).trans ((congrArg (fun b => bif b then _ else _) e4).trans ((if_neg c5).trans ((congrArg (fun b => bif b then _ else _) e6).trans ((if_neg c7).trans ((congrArg (fun b => bif b then _ else _) e8).trans ((if_neg c9).trans ((congrArg (fun b => bif b then _ else _) e10).trans (rfl)))))))))) : pu_mt (σ 7) T (pu_fm 1) 0 = 4).symm)) rfl
                    | true =>
                      refine am_call (y := 75) (vs := [.int (σ 7 4), .int 55]) (rest := []) (v := (some (.int 1))) (h1 := (hG σ sr ln Lc μ)) rfl rfl rfl (sp_X9_suits_55 (d + 2) _ _ e10) ?_
                      refine am_g 5 4 [some (.ref 20), some (.ref 1), some (.int 5)] [.ref 1, .int 5] (hG σ sr ln Lc μ) rfl ?_
                      refine am_call (y := 212) (vs := [.ref 1]) (rest := [.int 5]) (v := (some (.int 5))) (h1 := (hG σ sr ln Lc μ)) rfl rfl rfl (sp_J0_length_8abf5_1 (d + 2) _) ?_
                      refine am_g 2 41 [some (.ref 20), some (.ref 1), some (.int 5)] [.int 5] (hG σ sr ln Lc μ) rfl ?_
                      exact am_ret2 rfl rfl rfl (congrArg (fun z => some (Value.int (nI z))) (show 5 = pu_mt (σ 7) T (pu_fm 1) 0 from ((if_neg c1).trans ((congrArg (fun b => bif b then _ else _) e2).trans ((if_neg c3).trans ((congrArg (fun b => bif b then _ else _) e4).trans ((if_neg c5).trans ((congrArg (fun b => bif b then _ else _) e6).trans ((if_neg c7).trans ((congrArg (fun b => bif b then _ else _) e8).trans ((if_neg c9).trans ((congrArg (fun b => bif b then _ else _) e10).trans (rfl)))))))))) : pu_mt (σ 7) T (pu_fm 1) 0 = 5).symm)) rfl
theorem sp_X9_matched_2 (d : Nat) {T : Nat} (hT : σ 8 0 = nI T) (hT20 : T ≤ 20) : am_X xs LL (d + 5) 76 [.ref 20, .ref 2] (hG σ sr ln Lc μ) (some (.int (nI (pu_mt (σ 7) T (pu_fm 2) 0)))) (hG σ sr ln Lc μ) := by
  refine am_XR (d := d + 4) (C := cd_X9_matched) (L := [some (.ref 20), some (.ref 2), none]) rfl rfl rfl rfl ?_
  refine am_g 4 4 [some (.ref 20), some (.ref 2), some (.int 0)] [.ref 2, .int 0] (hG σ sr ln Lc μ) rfl ?_
  refine am_call (y := 212) (vs := [.ref 2]) (rest := [.int 0]) (v := (some (.int 5))) (h1 := (hG σ sr ln Lc μ)) rfl rfl rfl (sp_J0_length_8abf5_2 (d + 2) _) ?_
  refine am_g 4 15 [some (.ref 20), some (.ref 2), some (.int 0)] [.int (σ 8 0), .int 0] (hG σ sr ln Lc μ) rfl ?_
  rw [show (σ 8 0) = (nI T) from hT]
  refine am_g 1 (if (nI T) ≤ 0 then 40 else 18) [some (.ref 20), some (.ref 2), some (.int 0)] [] (hG σ sr ln Lc μ) rfl (am_brR (fun c1 => ?_) (fun c1 => ?_))
  · skip
    refine am_g 1 41 [some (.ref 20), some (.ref 2), some (.int 0)] [.int 0] (hG σ sr ln Lc μ) rfl ?_
    exact am_ret2 rfl rfl rfl (congrArg (fun z => some (Value.int (nI z))) (show 0 = pu_mt (σ 7) T (pu_fm 2) 0 from (if_pos c1 : pu_mt (σ 7) T (pu_fm 2) 0 = 0).symm)) rfl
  · skip
    refine am_g 2 20 [some (.ref 20), some (.ref 2), some (.int 0)] [.int 0, .ref 20] (hG σ sr ln Lc μ) rfl ?_
    refine am_call (y := 73) (vs := [.ref 20, .int 0]) (rest := []) (v := (some (.int (σ 7 0)))) (h1 := (hG σ sr ln Lc μ)) rfl rfl rfl (sp_X9_byteAt_lo (d + 3) hT hT20 0 (nI_lt_of (Int32.not_le.mp c1) hT20 (by decide))) ?_
    refine am_g 2 25 [some (.ref 20), some (.ref 2), some (.int 0)] [.int 0, .ref 2, .int (σ 7 0)] (hG σ sr ln Lc μ) rfl ?_
    refine am_call (y := 213) (vs := [.ref 2, .int 0]) (rest := [.int (σ 7 0)]) (v := (some (.int 120))) (h1 := (hG σ sr ln Lc μ)) rfl rfl rfl (sp_J0_charAt_5068e_2_0 d _) ?_
    cases e2 : pu_su 120 (σ 7 0) with
    | false =>
      refine am_call (y := 75) (vs := [.int (σ 7 0), .int 120]) (rest := []) (v := (some (.int 0))) (h1 := (hG σ sr ln Lc μ)) rfl rfl rfl (sp_X9_suits_120 (d + 2) _ _ e2) ?_
      refine am_g 2 41 [some (.ref 20), some (.ref 2), some (.int 0)] [.int 0] (hG σ sr ln Lc μ) rfl ?_
      exact am_ret2 rfl rfl rfl (congrArg (fun z => some (Value.int (nI z))) (show 0 = pu_mt (σ 7) T (pu_fm 2) 0 from ((if_neg c1).trans ((congrArg (fun b => bif b then _ else _) e2).trans (rfl)) : pu_mt (σ 7) T (pu_fm 2) 0 = 0).symm)) rfl
    | true =>
      refine am_call (y := 75) (vs := [.int (σ 7 0), .int 120]) (rest := []) (v := (some (.int 1))) (h1 := (hG σ sr ln Lc μ)) rfl rfl rfl (sp_X9_suits_120 (d + 2) _ _ e2) ?_
      refine am_g 5 4 [some (.ref 20), some (.ref 2), some (.int 1)] [.ref 2, .int 1] (hG σ sr ln Lc μ) rfl ?_
      refine am_call (y := 212) (vs := [.ref 2]) (rest := [.int 1]) (v := (some (.int 5))) (h1 := (hG σ sr ln Lc μ)) rfl rfl rfl (sp_J0_length_8abf5_2 (d + 2) _) ?_
      refine am_g 4 15 [some (.ref 20), some (.ref 2), some (.int 1)] [.int (σ 8 0), .int 1] (hG σ sr ln Lc μ) rfl ?_
      rw [show (σ 8 0) = (nI T) from hT]
      refine am_g 1 (if (nI T) ≤ 1 then 40 else 18) [some (.ref 20), some (.ref 2), some (.int 1)] [] (hG σ sr ln Lc μ) rfl (am_brR (fun c3 => ?_) (fun c3 => ?_))
      · skip
        refine am_g 1 41 [some (.ref 20), some (.ref 2), some (.int 1)] [.int 1] (hG σ sr ln Lc μ) rfl ?_
        exact am_ret2 rfl rfl rfl (congrArg (fun z => some (Value.int (nI z))) (show 1 = pu_mt (σ 7) T (pu_fm 2) 0 from ((if_neg c1).trans ((congrArg (fun b => bif b then _ else _) e2).trans (if_pos c3)) : pu_mt (σ 7) T (pu_fm 2) 0 = 1).symm)) rfl
      · skip
        refine am_g 2 20 [some (.ref 20), some (.ref 2), some (.int 1)] [.int 1, .ref 20] (hG σ sr ln Lc μ) rfl ?_
        refine am_call (y := 73) (vs := [.ref 20, .int 1]) (rest := []) (v := (some (.int (σ 7 1)))) (h1 := (hG σ sr ln Lc μ)) rfl rfl rfl (sp_X9_byteAt_lo (d + 3) hT hT20 1 (nI_lt_of (Int32.not_le.mp c3) hT20 (by decide))) ?_
        refine am_g 2 25 [some (.ref 20), some (.ref 2), some (.int 1)] [.int 1, .ref 2, .int (σ 7 1)] (hG σ sr ln Lc μ) rfl ?_
        refine am_call (y := 213) (vs := [.ref 2, .int 1]) (rest := [.int (σ 7 1)]) (v := (some (.int 61))) (h1 := (hG σ sr ln Lc μ)) rfl rfl rfl (sp_J0_charAt_5068e_2_1 d _) ?_
        cases e4 : pu_su 61 (σ 7 1) with
        | false =>
          refine am_call (y := 75) (vs := [.int (σ 7 1), .int 61]) (rest := []) (v := (some (.int 0))) (h1 := (hG σ sr ln Lc μ)) rfl rfl rfl (sp_X9_suits_61 (d + 2) _ _ e4) ?_
          refine am_g 2 41 [some (.ref 20), some (.ref 2), some (.int 1)] [.int 1] (hG σ sr ln Lc μ) rfl ?_
          exact am_ret2 rfl rfl rfl (congrArg (fun z => some (Value.int (nI z))) (show 1 = pu_mt (σ 7) T (pu_fm 2) 0 from ((if_neg c1).trans ((congrArg (fun b => bif b then _ else _) e2).trans ((if_neg c3).trans ((congrArg (fun b => bif b then _ else _) e4).trans (rfl)))) : pu_mt (σ 7) T (pu_fm 2) 0 = 1).symm)) rfl
        | true =>
          refine am_call (y := 75) (vs := [.int (σ 7 1), .int 61]) (rest := []) (v := (some (.int 1))) (h1 := (hG σ sr ln Lc μ)) rfl rfl rfl (sp_X9_suits_61 (d + 2) _ _ e4) ?_
          refine am_g 5 4 [some (.ref 20), some (.ref 2), some (.int 2)] [.ref 2, .int 2] (hG σ sr ln Lc μ) rfl ?_
          refine am_call (y := 212) (vs := [.ref 2]) (rest := [.int 2]) (v := (some (.int 5))) (h1 := (hG σ sr ln Lc μ)) rfl rfl rfl (sp_J0_length_8abf5_2 (d + 2) _) ?_
          refine am_g 4 15 [some (.ref 20), some (.ref 2), some (.int 2)] [.int (σ 8 0), .int 2] (hG σ sr ln Lc μ) rfl ?_
          rw [show (σ 8 0) = (nI T) from hT]
          refine am_g 1 (if (nI T) ≤ 2 then 40 else 18) [some (.ref 20), some (.ref 2), some (.int 2)] [] (hG σ sr ln Lc μ) rfl (am_brR (fun c5 => ?_) (fun c5 => ?_))
          · skip
            refine am_g 1 41 [some (.ref 20), some (.ref 2), some (.int 2)] [.int 2] (hG σ sr ln Lc μ) rfl ?_
            exact am_ret2 rfl rfl rfl (congrArg (fun z => some (Value.int (nI z))) (show 2 = pu_mt (σ 7) T (pu_fm 2) 0 from ((if_neg c1).trans ((congrArg (fun b => bif b then _ else _) e2).trans ((if_neg c3).trans ((congrArg (fun b => bif b then _ else _) e4).trans (if_pos c5)))) : pu_mt (σ 7) T (pu_fm 2) 0 = 2).symm)) rfl
          · skip
            refine am_g 2 20 [some (.ref 20), some (.ref 2), some (.int 2)] [.int 2, .ref 20] (hG σ sr ln Lc μ) rfl ?_
            refine am_call (y := 73) (vs := [.ref 20, .int 2]) (rest := []) (v := (some (.int (σ 7 2)))) (h1 := (hG σ sr ln Lc μ)) rfl rfl rfl (sp_X9_byteAt_lo (d + 3) hT hT20 2 (nI_lt_of (Int32.not_le.mp c5) hT20 (by decide))) ?_
            refine am_g 2 25 [some (.ref 20), some (.ref 2), some (.int 2)] [.int 2, .ref 2, .int (σ 7 2)] (hG σ sr ln Lc μ) rfl ?_
            refine am_call (y := 213) (vs := [.ref 2, .int 2]) (rest := [.int (σ 7 2)]) (v := (some (.int 121))) (h1 := (hG σ sr ln Lc μ)) rfl rfl rfl (sp_J0_charAt_5068e_2_2 d _) ?_
            cases e6 : pu_su 121 (σ 7 2) with
            | false =>
              refine am_call (y := 75) (vs := [.int (σ 7 2), .int 121]) (rest := []) (v := (some (.int 0))) (h1 := (hG σ sr ln Lc μ)) rfl rfl rfl (sp_X9_suits_121 (d + 2) _ _ e6) ?_
              refine am_g 2 41 [some (.ref 20), some (.ref 2), some (.int 2)] [.int 2] (hG σ sr ln Lc μ) rfl ?_
              exact am_ret2 rfl rfl rfl (congrArg (fun z => some (Value.int (nI z))) (show 2 = pu_mt (σ 7) T (pu_fm 2) 0 from ((if_neg c1).trans ((congrArg (fun b => bif b then _ else _) e2).trans ((if_neg c3).trans ((congrArg (fun b => bif b then _ else _) e4).trans ((if_neg c5).trans ((congrArg (fun b => bif b then _ else _) e6).trans (rfl)))))) : pu_mt (σ 7) T (pu_fm 2) 0 = 2).symm)) rfl
            | true =>
              refine am_call (y := 75) (vs := [.int (σ 7 2), .int 121]) (rest := []) (v := (some (.int 1))) (h1 := (hG σ sr ln Lc μ)) rfl rfl rfl (sp_X9_suits_121 (d + 2) _ _ e6) ?_
              refine am_g 5 4 [some (.ref 20), some (.ref 2), some (.int 3)] [.ref 2, .int 3] (hG σ sr ln Lc μ) rfl ?_
              refine am_call (y := 212) (vs := [.ref 2]) (rest := [.int 3]) (v := (some (.int 5))) (h1 := (hG σ sr ln Lc μ)) rfl rfl rfl (sp_J0_length_8abf5_2 (d + 2) _) ?_
              refine am_g 4 15 [some (.ref 20), some (.ref 2), some (.int 3)] [.int (σ 8 0), .int 3] (hG σ sr ln Lc μ) rfl ?_
              rw [show (σ 8 0) = (nI T) from hT]
              refine am_g 1 (if (nI T) ≤ 3 then 40 else 18) [some (.ref 20), some (.ref 2), some (.int 3)] [] (hG σ sr ln Lc μ) rfl (am_brR (fun c7 => ?_) (fun c7 => ?_))
              · skip
                refine am_g 1 41 [some (.ref 20), some (.ref 2), some (.int 3)] [.int 3] (hG σ sr ln Lc μ) rfl ?_
                exact am_ret2 rfl rfl rfl (congrArg (fun z => some (Value.int (nI z))) (show 3 = pu_mt (σ 7) T (pu_fm 2) 0 from ((if_neg c1).trans ((congrArg (fun b => bif b then _ else _) e2).trans ((if_neg c3).trans ((congrArg (fun b => bif b then _ else _) e4).trans ((if_neg c5).trans ((congrArg (fun b => bif b then _ else _) e6).trans (if_pos c7)))))) : pu_mt (σ 7) T (pu_fm 2) 0 = 3).symm)) rfl
              · skip
                refine am_g 2 20 [some (.ref 20), some (.ref 2), some (.int 3)] [.int 3, .ref 20] (hG σ sr ln Lc μ) rfl ?_
                refine am_call (y := 73) (vs := [.ref 20, .int 3]) (rest := []) (v := (some (.int (σ 7 3)))) (h1 := (hG σ sr ln Lc μ)) rfl rfl rfl (sp_X9_byteAt_lo (d + 3) hT hT20 3 (nI_lt_of (Int32.not_le.mp c7) hT20 (by decide))) ?_
                refine am_g 2 25 [some (.ref 20), some (.ref 2), some (.int 3)] [.int 3, .ref 2, .int (σ 7 3)] (hG σ sr ln Lc μ) rfl ?_
                refine am_call (y := 213) (vs := [.ref 2, .int 3]) (rest := [.int (σ 7 3)]) (v := (some (.int 46))) (h1 := (hG σ sr ln Lc μ)) rfl rfl rfl (sp_J0_charAt_5068e_2_3 d _) ?_
                cases e8 : pu_su 46 (σ 7 3) with
                | false =>
                  refine am_call (y := 75) (vs := [.int (σ 7 3), .int 46]) (rest := []) (v := (some (.int 0))) (h1 := (hG σ sr ln Lc μ)) rfl rfl rfl (sp_X9_suits_46 (d + 2) _ _ e8) ?_
                  refine am_g 2 41 [some (.ref 20), some (.ref 2), some (.int 3)] [.int 3] (hG σ sr ln Lc μ) rfl ?_
                  exact am_ret2 rfl rfl rfl (congrArg (fun z => some (Value.int (nI z))) (show 3 = pu_mt (σ 7) T (pu_fm 2) 0 from ((if_neg c1).trans ((congrArg (fun b => bif b then _ else _) e2).trans ((if_neg c3).trans ((congrArg (fun b => bif b then _ else _) e4).trans ((if_neg c5).trans ((congrArg (fun b => bif b then _ else _) e6).trans ((if_neg c7).trans ((congrArg (fun b => bif b then _ else _) e8).trans (rfl)))))))) : pu_mt (σ 7) T (pu_fm 2) 0 = 3).symm)) rfl
                | true =>
                  refine am_call (y := 75) (vs := [.int (σ 7 3), .int 46]) (rest := []) (v := (some (.int 1))) (h1 := (hG σ sr ln Lc μ)) rfl rfl rfl (sp_X9_suits_46 (d + 2) _ _ e8) ?_
                  refine am_g 5 4 [some (.ref 20), some (.ref 2), some (.int 4)] [.ref 2, .int 4] (hG σ sr ln Lc μ) rfl ?_
                  refine am_call (y := 212) (vs := [.ref 2]) (rest := [.int 4]) (v := (some (.int 5))) (h1 := (hG σ sr ln Lc μ)) rfl rfl rfl (sp_J0_length_8abf5_2 (d + 2) _) ?_
                  refine am_g 4 15 [some (.ref 20), some (.ref 2), some (.int 4)] [.int (σ 8 0), .int 4] (hG σ sr ln Lc μ) rfl ?_
                  rw [show (σ 8 0) = (nI T) from hT]
                  refine am_g 1 (if (nI T) ≤ 4 then 40 else 18) [some (.ref 20), some (.ref 2), some (.int 4)] [] (hG σ sr ln Lc μ) rfl (am_brR (fun c9 => ?_) (fun c9 => ?_))
                  · skip
                    refine am_g 1 41 [some (.ref 20), some (.ref 2), some (.int 4)] [.int 4] (hG σ sr ln Lc μ) rfl ?_
                    exact am_ret2 rfl rfl rfl (congrArg (fun z => some (Value.int (nI z))) (show 4 = pu_mt (σ 7) T (pu_fm 2) 0 from ((if_neg c1).trans ((congrArg (fun b => bif b then _ else _) e2).trans ((if_neg c3).trans ((congrArg (fun b => bif b then _ else _) e4).trans ((if_neg c5).trans ((congrArg (fun b => bif b then _ else _) e6).trans ((if_neg c7).trans ((congrArg (fun b => bif b then _ else _) e8).trans (if_pos c9)))))))) : pu_mt (σ 7) T (pu_fm 2) 0 = 4).symm)) rfl
                  · skip
                    refine am_g 2 20 [some (.ref 20), some (.ref 2), some (.int 4)] [.int 4, .ref 20] (hG σ sr ln Lc μ) rfl ?_
                    refine am_call (y := 73) (vs := [.ref 20, .int 4]) (rest := []) (v := (some (.int (σ 7 4)))) (h1 := (hG σ sr ln Lc μ)) rfl rfl rfl (sp_X9_byteAt_lo (d + 3) hT hT20 4 (nI_lt_of (Int32.not_le.mp c9) hT20 (by decide))) ?_
                    refine am_g 2 25 [some (.ref 20), some (.ref 2), some (.int 4)] [.int 4, .ref 2, .int (σ 7 4)] (hG σ sr ln Lc μ) rfl ?_
                    refine am_call (y := 213) (vs := [.ref 2, .int 4]) (rest := [.int (σ 7 4)]) (v := (some (.int 50))) (h1 := (hG σ sr ln Lc μ)) rfl rfl rfl (sp_J0_charAt_5068e_2_4 d _) ?_
                    cases e10 : pu_su 50 (σ 7 4) with
                    | false =>
                      refine am_call (y := 75) (vs := [.int (σ 7 4), .int 50]) (rest := []) (v := (some (.int 0))) (h1 := (hG σ sr ln Lc μ)) rfl rfl rfl (sp_X9_suits_50 (d + 2) _ _ e10) ?_
                      refine am_g 2 41 [some (.ref 20), some (.ref 2), some (.int 4)] [.int 4] (hG σ sr ln Lc μ) rfl ?_
                      exact am_ret2 rfl rfl rfl (congrArg (fun z => some (Value.int (nI z))) (show 4 = pu_mt (σ 7) T (pu_fm 2) 0 from ((if_neg c1).trans ((congrArg (fun b => bif b then _ else _) e2).trans ((if_neg c3).trans ((congrArg (fun b => bif b then _ else _) e4).trans ((if_neg c5).trans ((congrArg (fun b => bif b then _ else _) e6).trans ((if_neg c7).trans ((congrArg (fun b => bif b then _ else _) e8).trans ((if_neg c9).trans ((congrArg (fun b => bif b then _ else _) e10).trans (rfl)))))))))) : pu_mt (σ 7) T (pu_fm 2) 0 = 4).symm)) rfl
                    | true =>
                      refine am_call (y := 75) (vs := [.int (σ 7 4), .int 50]) (rest := []) (v := (some (.int 1))) (h1 := (hG σ sr ln Lc μ)) rfl rfl rfl (sp_X9_suits_50 (d + 2) _ _ e10) ?_
                      refine am_g 5 4 [some (.ref 20), some (.ref 2), some (.int 5)] [.ref 2, .int 5] (hG σ sr ln Lc μ) rfl ?_
                      refine am_call (y := 212) (vs := [.ref 2]) (rest := [.int 5]) (v := (some (.int 5))) (h1 := (hG σ sr ln Lc μ)) rfl rfl rfl (sp_J0_length_8abf5_2 (d + 2) _) ?_
                      refine am_g 2 41 [some (.ref 20), some (.ref 2), some (.int 5)] [.int 5] (hG σ sr ln Lc μ) rfl ?_
                      exact am_ret2 rfl rfl rfl (congrArg (fun z => some (Value.int (nI z))) (show 5 = pu_mt (σ 7) T (pu_fm 2) 0 from ((if_neg c1).trans ((congrArg (fun b => bif b then _ else _) e2).trans ((if_neg c3).trans ((congrArg (fun b => bif b then _ else _) e4).trans ((if_neg c5).trans ((congrArg (fun b => bif b then _ else _) e6).trans ((if_neg c7).trans ((congrArg (fun b => bif b then _ else _) e8).trans ((if_neg c9).trans ((congrArg (fun b => bif b then _ else _) e10).trans (rfl)))))))))) : pu_mt (σ 7) T (pu_fm 2) 0 = 5).symm)) rfl
theorem sp_X9_matched_3 (d : Nat) {T : Nat} (hT : σ 8 0 = nI T) (hT20 : T ≤ 20) : am_X xs LL (d + 5) 76 [.ref 20, .ref 3] (hG σ sr ln Lc μ) (some (.int (nI (pu_mt (σ 7) T (pu_fm 3) 0)))) (hG σ sr ln Lc μ) := by
  refine am_XR (d := d + 4) (C := cd_X9_matched) (L := [some (.ref 20), some (.ref 3), none]) rfl rfl rfl rfl ?_
  refine am_g 4 4 [some (.ref 20), some (.ref 3), some (.int 0)] [.ref 3, .int 0] (hG σ sr ln Lc μ) rfl ?_
  refine am_call (y := 212) (vs := [.ref 3]) (rest := [.int 0]) (v := (some (.int 5))) (h1 := (hG σ sr ln Lc μ)) rfl rfl rfl (sp_J0_length_8abf5_3 (d + 2) _) ?_
  refine am_g 4 15 [some (.ref 20), some (.ref 3), some (.int 0)] [.int (σ 8 0), .int 0] (hG σ sr ln Lc μ) rfl ?_
  rw [show (σ 8 0) = (nI T) from hT]
  refine am_g 1 (if (nI T) ≤ 0 then 40 else 18) [some (.ref 20), some (.ref 3), some (.int 0)] [] (hG σ sr ln Lc μ) rfl (am_brR (fun c1 => ?_) (fun c1 => ?_))
  · skip
    refine am_g 1 41 [some (.ref 20), some (.ref 3), some (.int 0)] [.int 0] (hG σ sr ln Lc μ) rfl ?_
    exact am_ret2 rfl rfl rfl (congrArg (fun z => some (Value.int (nI z))) (show 0 = pu_mt (σ 7) T (pu_fm 3) 0 from (if_pos c1 : pu_mt (σ 7) T (pu_fm 3) 0 = 0).symm)) rfl
  · skip
    refine am_g 2 20 [some (.ref 20), some (.ref 3), some (.int 0)] [.int 0, .ref 20] (hG σ sr ln Lc μ) rfl ?_
    refine am_call (y := 73) (vs := [.ref 20, .int 0]) (rest := []) (v := (some (.int (σ 7 0)))) (h1 := (hG σ sr ln Lc μ)) rfl rfl rfl (sp_X9_byteAt_lo (d + 3) hT hT20 0 (nI_lt_of (Int32.not_le.mp c1) hT20 (by decide))) ?_
    refine am_g 2 25 [some (.ref 20), some (.ref 3), some (.int 0)] [.int 0, .ref 3, .int (σ 7 0)] (hG σ sr ln Lc μ) rfl ?_
    refine am_call (y := 213) (vs := [.ref 3, .int 0]) (rest := [.int (σ 7 0)]) (v := (some (.int 120))) (h1 := (hG σ sr ln Lc μ)) rfl rfl rfl (sp_J0_charAt_5068e_3_0 d _) ?_
    cases e2 : pu_su 120 (σ 7 0) with
    | false =>
      refine am_call (y := 75) (vs := [.int (σ 7 0), .int 120]) (rest := []) (v := (some (.int 0))) (h1 := (hG σ sr ln Lc μ)) rfl rfl rfl (sp_X9_suits_120 (d + 2) _ _ e2) ?_
      refine am_g 2 41 [some (.ref 20), some (.ref 3), some (.int 0)] [.int 0] (hG σ sr ln Lc μ) rfl ?_
      exact am_ret2 rfl rfl rfl (congrArg (fun z => some (Value.int (nI z))) (show 0 = pu_mt (σ 7) T (pu_fm 3) 0 from ((if_neg c1).trans ((congrArg (fun b => bif b then _ else _) e2).trans (rfl)) : pu_mt (σ 7) T (pu_fm 3) 0 = 0).symm)) rfl
    | true =>
      refine am_call (y := 75) (vs := [.int (σ 7 0), .int 120]) (rest := []) (v := (some (.int 1))) (h1 := (hG σ sr ln Lc μ)) rfl rfl rfl (sp_X9_suits_120 (d + 2) _ _ e2) ?_
      refine am_g 5 4 [some (.ref 20), some (.ref 3), some (.int 1)] [.ref 3, .int 1] (hG σ sr ln Lc μ) rfl ?_
      refine am_call (y := 212) (vs := [.ref 3]) (rest := [.int 1]) (v := (some (.int 5))) (h1 := (hG σ sr ln Lc μ)) rfl rfl rfl (sp_J0_length_8abf5_3 (d + 2) _) ?_
      refine am_g 4 15 [some (.ref 20), some (.ref 3), some (.int 1)] [.int (σ 8 0), .int 1] (hG σ sr ln Lc μ) rfl ?_
      rw [show (σ 8 0) = (nI T) from hT]
      refine am_g 1 (if (nI T) ≤ 1 then 40 else 18) [some (.ref 20), some (.ref 3), some (.int 1)] [] (hG σ sr ln Lc μ) rfl (am_brR (fun c3 => ?_) (fun c3 => ?_))
      · skip
        refine am_g 1 41 [some (.ref 20), some (.ref 3), some (.int 1)] [.int 1] (hG σ sr ln Lc μ) rfl ?_
        exact am_ret2 rfl rfl rfl (congrArg (fun z => some (Value.int (nI z))) (show 1 = pu_mt (σ 7) T (pu_fm 3) 0 from ((if_neg c1).trans ((congrArg (fun b => bif b then _ else _) e2).trans (if_pos c3)) : pu_mt (σ 7) T (pu_fm 3) 0 = 1).symm)) rfl
      · skip
        refine am_g 2 20 [some (.ref 20), some (.ref 3), some (.int 1)] [.int 1, .ref 20] (hG σ sr ln Lc μ) rfl ?_
        refine am_call (y := 73) (vs := [.ref 20, .int 1]) (rest := []) (v := (some (.int (σ 7 1)))) (h1 := (hG σ sr ln Lc μ)) rfl rfl rfl (sp_X9_byteAt_lo (d + 3) hT hT20 1 (nI_lt_of (Int32.not_le.mp c3) hT20 (by decide))) ?_
        refine am_g 2 25 [some (.ref 20), some (.ref 3), some (.int 1)] [.int 1, .ref 3, .int (σ 7 1)] (hG σ sr ln Lc μ) rfl ?_
        refine am_call (y := 213) (vs := [.ref 3, .int 1]) (rest := [.int (σ 7 1)]) (v := (some (.int 46))) (h1 := (hG σ sr ln Lc μ)) rfl rfl rfl (sp_J0_charAt_5068e_3_1 d _) ?_
        cases e4 : pu_su 46 (σ 7 1) with
        | false =>
          refine am_call (y := 75) (vs := [.int (σ 7 1), .int 46]) (rest := []) (v := (some (.int 0))) (h1 := (hG σ sr ln Lc μ)) rfl rfl rfl (sp_X9_suits_46 (d + 2) _ _ e4) ?_
          refine am_g 2 41 [some (.ref 20), some (.ref 3), some (.int 1)] [.int 1] (hG σ sr ln Lc μ) rfl ?_
          exact am_ret2 rfl rfl rfl (congrArg (fun z => some (Value.int (nI z))) (show 1 = pu_mt (σ 7) T (pu_fm 3) 0 from ((if_neg c1).trans ((congrArg (fun b => bif b then _ else _) e2).trans ((if_neg c3).trans ((congrArg (fun b => bif b then _ else _) e4).trans (rfl)))) : pu_mt (σ 7) T (pu_fm 3) 0 = 1).symm)) rfl
        | true =>
          refine am_call (y := 75) (vs := [.int (σ 7 1), .int 46]) (rest := []) (v := (some (.int 1))) (h1 := (hG σ sr ln Lc μ)) rfl rfl rfl (sp_X9_suits_46 (d + 2) _ _ e4) ?_
          refine am_g 5 4 [some (.ref 20), some (.ref 3), some (.int 2)] [.ref 3, .int 2] (hG σ sr ln Lc μ) rfl ?_
          refine am_call (y := 212) (vs := [.ref 3]) (rest := [.int 2]) (v := (some (.int 5))) (h1 := (hG σ sr ln Lc μ)) rfl rfl rfl (sp_J0_length_8abf5_3 (d + 2) _) ?_
          refine am_g 4 15 [some (.ref 20), some (.ref 3), some (.int 2)] [.int (σ 8 0), .int 2] (hG σ sr ln Lc μ) rfl ?_
          rw [show (σ 8 0) = (nI T) from hT]
          refine am_g 1 (if (nI T) ≤ 2 then 40 else 18) [some (.ref 20), some (.ref 3), some (.int 2)] [] (hG σ sr ln Lc μ) rfl (am_brR (fun c5 => ?_) (fun c5 => ?_))
          · skip
            refine am_g 1 41 [some (.ref 20), some (.ref 3), some (.int 2)] [.int 2] (hG σ sr ln Lc μ) rfl ?_
            exact am_ret2 rfl rfl rfl (congrArg (fun z => some (Value.int (nI z))) (show 2 = pu_mt (σ 7) T (pu_fm 3) 0 from ((if_neg c1).trans ((congrArg (fun b => bif b then _ else _) e2).trans ((if_neg c3).trans ((congrArg (fun b => bif b then _ else _) e4).trans (if_pos c5)))) : pu_mt (σ 7) T (pu_fm 3) 0 = 2).symm)) rfl
          · skip
            refine am_g 2 20 [some (.ref 20), some (.ref 3), some (.int 2)] [.int 2, .ref 20] (hG σ sr ln Lc μ) rfl ?_
            refine am_call (y := 73) (vs := [.ref 20, .int 2]) (rest := []) (v := (some (.int (σ 7 2)))) (h1 := (hG σ sr ln Lc μ)) rfl rfl rfl (sp_X9_byteAt_lo (d + 3) hT hT20 2 (nI_lt_of (Int32.not_le.mp c5) hT20 (by decide))) ?_
            refine am_g 2 25 [some (.ref 20), some (.ref 3), some (.int 2)] [.int 2, .ref 3, .int (σ 7 2)] (hG σ sr ln Lc μ) rfl ?_
            refine am_call (y := 213) (vs := [.ref 3, .int 2]) (rest := [.int (σ 7 2)]) (v := (some (.int 50))) (h1 := (hG σ sr ln Lc μ)) rfl rfl rfl (sp_J0_charAt_5068e_3_2 d _) ?_
            cases e6 : pu_su 50 (σ 7 2) with
            | false =>
              refine am_call (y := 75) (vs := [.int (σ 7 2), .int 50]) (rest := []) (v := (some (.int 0))) (h1 := (hG σ sr ln Lc μ)) rfl rfl rfl (sp_X9_suits_50 (d + 2) _ _ e6) ?_
              refine am_g 2 41 [some (.ref 20), some (.ref 3), some (.int 2)] [.int 2] (hG σ sr ln Lc μ) rfl ?_
              exact am_ret2 rfl rfl rfl (congrArg (fun z => some (Value.int (nI z))) (show 2 = pu_mt (σ 7) T (pu_fm 3) 0 from ((if_neg c1).trans ((congrArg (fun b => bif b then _ else _) e2).trans ((if_neg c3).trans ((congrArg (fun b => bif b then _ else _) e4).trans ((if_neg c5).trans ((congrArg (fun b => bif b then _ else _) e6).trans (rfl)))))) : pu_mt (σ 7) T (pu_fm 3) 0 = 2).symm)) rfl
            | true =>
              refine am_call (y := 75) (vs := [.int (σ 7 2), .int 50]) (rest := []) (v := (some (.int 1))) (h1 := (hG σ sr ln Lc μ)) rfl rfl rfl (sp_X9_suits_50 (d + 2) _ _ e6) ?_
              refine am_g 5 4 [some (.ref 20), some (.ref 3), some (.int 3)] [.ref 3, .int 3] (hG σ sr ln Lc μ) rfl ?_
              refine am_call (y := 212) (vs := [.ref 3]) (rest := [.int 3]) (v := (some (.int 5))) (h1 := (hG σ sr ln Lc μ)) rfl rfl rfl (sp_J0_length_8abf5_3 (d + 2) _) ?_
              refine am_g 4 15 [some (.ref 20), some (.ref 3), some (.int 3)] [.int (σ 8 0), .int 3] (hG σ sr ln Lc μ) rfl ?_
              rw [show (σ 8 0) = (nI T) from hT]
              refine am_g 1 (if (nI T) ≤ 3 then 40 else 18) [some (.ref 20), some (.ref 3), some (.int 3)] [] (hG σ sr ln Lc μ) rfl (am_brR (fun c7 => ?_) (fun c7 => ?_))
              · skip
                refine am_g 1 41 [some (.ref 20), some (.ref 3), some (.int 3)] [.int 3] (hG σ sr ln Lc μ) rfl ?_
                exact am_ret2 rfl rfl rfl (congrArg (fun z => some (Value.int (nI z))) (show 3 = pu_mt (σ 7) T (pu_fm 3) 0 from ((if_neg c1).trans ((congrArg (fun b => bif b then _ else _) e2).trans ((if_neg c3).trans ((congrArg (fun b => bif b then _ else _) e4).trans ((if_neg c5).trans ((congrArg (fun b => bif b then _ else _) e6).trans (if_pos c7)))))) : pu_mt (σ 7) T (pu_fm 3) 0 = 3).symm)) rfl
              · skip
                refine am_g 2 20 [some (.ref 20), some (.ref 3), some (.int 3)] [.int 3, .ref 20] (hG σ sr ln Lc μ) rfl ?_
                refine am_call (y := 73) (vs := [.ref 20, .int 3]) (rest := []) (v := (some (.int (σ 7 3)))) (h1 := (hG σ sr ln Lc μ)) rfl rfl rfl (sp_X9_byteAt_lo (d + 3) hT hT20 3 (nI_lt_of (Int32.not_le.mp c7) hT20 (by decide))) ?_
                refine am_g 2 25 [some (.ref 20), some (.ref 3), some (.int 3)] [.int 3, .ref 3, .int (σ 7 3)] (hG σ sr ln Lc μ) rfl ?_
                refine am_call (y := 213) (vs := [.ref 3, .int 3]) (rest := [.int (σ 7 3)]) (v := (some (.int 61))) (h1 := (hG σ sr ln Lc μ)) rfl rfl rfl (sp_J0_charAt_5068e_3_3 d _) ?_
                cases e8 : pu_su 61 (σ 7 3) with
                | false =>
                  refine am_call (y := 75) (vs := [.int (σ 7 3), .int 61]) (rest := []) (v := (some (.int 0))) (h1 := (hG σ sr ln Lc μ)) rfl rfl rfl (sp_X9_suits_61 (d + 2) _ _ e8) ?_
                  refine am_g 2 41 [some (.ref 20), some (.ref 3), some (.int 3)] [.int 3] (hG σ sr ln Lc μ) rfl ?_
                  exact am_ret2 rfl rfl rfl (congrArg (fun z => some (Value.int (nI z))) (show 3 = pu_mt (σ 7) T (pu_fm 3) 0 from ((if_neg c1).trans ((congrArg (fun b => bif b then _ else _) e2).trans ((if_neg c3).trans ((congrArg (fun b => bif b then _ else _) e4).trans ((if_neg c5).trans ((congrArg (fun b => bif b then _ else _) e6).trans ((if_neg c7).trans ((congrArg (fun b => bif b then _ else _) e8).trans (rfl)))))))) : pu_mt (σ 7) T (pu_fm 3) 0 = 3).symm)) rfl
                | true =>
                  refine am_call (y := 75) (vs := [.int (σ 7 3), .int 61]) (rest := []) (v := (some (.int 1))) (h1 := (hG σ sr ln Lc μ)) rfl rfl rfl (sp_X9_suits_61 (d + 2) _ _ e8) ?_
                  refine am_g 5 4 [some (.ref 20), some (.ref 3), some (.int 4)] [.ref 3, .int 4] (hG σ sr ln Lc μ) rfl ?_
                  refine am_call (y := 212) (vs := [.ref 3]) (rest := [.int 4]) (v := (some (.int 5))) (h1 := (hG σ sr ln Lc μ)) rfl rfl rfl (sp_J0_length_8abf5_3 (d + 2) _) ?_
                  refine am_g 4 15 [some (.ref 20), some (.ref 3), some (.int 4)] [.int (σ 8 0), .int 4] (hG σ sr ln Lc μ) rfl ?_
                  rw [show (σ 8 0) = (nI T) from hT]
                  refine am_g 1 (if (nI T) ≤ 4 then 40 else 18) [some (.ref 20), some (.ref 3), some (.int 4)] [] (hG σ sr ln Lc μ) rfl (am_brR (fun c9 => ?_) (fun c9 => ?_))
                  · skip
                    refine am_g 1 41 [some (.ref 20), some (.ref 3), some (.int 4)] [.int 4] (hG σ sr ln Lc μ) rfl ?_
                    exact am_ret2 rfl rfl rfl (congrArg (fun z => some (Value.int (nI z))) (show 4 = pu_mt (σ 7) T (pu_fm 3) 0 from ((if_neg c1).trans ((congrArg (fun b => bif b then _ else _) e2).trans ((if_neg c3).trans ((congrArg (fun b => bif b then _ else _) e4).trans ((if_neg c5).trans ((congrArg (fun b => bif b then _ else _) e6).trans ((if_neg c7).trans ((congrArg (fun b => bif b then _ else _) e8).trans (if_pos c9)))))))) : pu_mt (σ 7) T (pu_fm 3) 0 = 4).symm)) rfl
                  · skip
                    refine am_g 2 20 [some (.ref 20), some (.ref 3), some (.int 4)] [.int 4, .ref 20] (hG σ sr ln Lc μ) rfl ?_
                    refine am_call (y := 73) (vs := [.ref 20, .int 4]) (rest := []) (v := (some (.int (σ 7 4)))) (h1 := (hG σ sr ln Lc μ)) rfl rfl rfl (sp_X9_byteAt_lo (d + 3) hT hT20 4 (nI_lt_of (Int32.not_le.mp c9) hT20 (by decide))) ?_
                    refine am_g 2 25 [some (.ref 20), some (.ref 3), some (.int 4)] [.int 4, .ref 3, .int (σ 7 4)] (hG σ sr ln Lc μ) rfl ?_
                    refine am_call (y := 213) (vs := [.ref 3, .int 4]) (rest := [.int (σ 7 4)]) (v := (some (.int 121))) (h1 := (hG σ sr ln Lc μ)) rfl rfl rfl (sp_J0_charAt_5068e_3_4 d _) ?_
                    cases e10 : pu_su 121 (σ 7 4) with
                    | false =>
                      refine am_call (y := 75) (vs := [.int (σ 7 4), .int 121]) (rest := []) (v := (some (.int 0))) (h1 := (hG σ sr ln Lc μ)) rfl rfl rfl (sp_X9_suits_121 (d + 2) _ _ e10) ?_
                      refine am_g 2 41 [some (.ref 20), some (.ref 3), some (.int 4)] [.int 4] (hG σ sr ln Lc μ) rfl ?_
                      exact am_ret2 rfl rfl rfl (congrArg (fun z => some (Value.int (nI z))) (show 4 = pu_mt (σ 7) T (pu_fm 3) 0 from ((if_neg c1).trans ((congrArg (fun b => bif b then _ else _) e2).trans ((if_neg c3).trans ((congrArg (fun b => bif b then _ else _) e4).trans ((if_neg c5).trans ((congrArg (fun b => bif b then _ else _) e6).trans ((if_neg c7).trans ((congrArg (fun b => bif b then _ else _) e8).trans ((if_neg c9).trans ((congrArg (fun b => bif b then _ else _) e10).trans (rfl)))))))))) : pu_mt (σ 7) T (pu_fm 3) 0 = 4).symm)) rfl
                    | true =>
                      refine am_call (y := 75) (vs := [.int (σ 7 4), .int 121]) (rest := []) (v := (some (.int 1))) (h1 := (hG σ sr ln Lc μ)) rfl rfl rfl (sp_X9_suits_121 (d + 2) _ _ e10) ?_
                      refine am_g 5 4 [some (.ref 20), some (.ref 3), some (.int 5)] [.ref 3, .int 5] (hG σ sr ln Lc μ) rfl ?_
                      refine am_call (y := 212) (vs := [.ref 3]) (rest := [.int 5]) (v := (some (.int 5))) (h1 := (hG σ sr ln Lc μ)) rfl rfl rfl (sp_J0_length_8abf5_3 (d + 2) _) ?_
                      refine am_g 2 41 [some (.ref 20), some (.ref 3), some (.int 5)] [.int 5] (hG σ sr ln Lc μ) rfl ?_
                      exact am_ret2 rfl rfl rfl (congrArg (fun z => some (Value.int (nI z))) (show 5 = pu_mt (σ 7) T (pu_fm 3) 0 from ((if_neg c1).trans ((congrArg (fun b => bif b then _ else _) e2).trans ((if_neg c3).trans ((congrArg (fun b => bif b then _ else _) e4).trans ((if_neg c5).trans ((congrArg (fun b => bif b then _ else _) e6).trans ((if_neg c7).trans ((congrArg (fun b => bif b then _ else _) e8).trans ((if_neg c9).trans ((congrArg (fun b => bif b then _ else _) e10).trans (rfl)))))))))) : pu_mt (σ 7) T (pu_fm 3) 0 = 5).symm)) rfl
theorem sp_X9_matched_4 (d : Nat) {T : Nat} (hT : σ 8 0 = nI T) (hT20 : T ≤ 20) : am_X xs LL (d + 5) 76 [.ref 20, .ref 4] (hG σ sr ln Lc μ) (some (.int (nI (pu_mt (σ 7) T (pu_fm 4) 0)))) (hG σ sr ln Lc μ) := by
  refine am_XR (d := d + 4) (C := cd_X9_matched) (L := [some (.ref 20), some (.ref 4), none]) rfl rfl rfl rfl ?_
  refine am_g 4 4 [some (.ref 20), some (.ref 4), some (.int 0)] [.ref 4, .int 0] (hG σ sr ln Lc μ) rfl ?_
  refine am_call (y := 212) (vs := [.ref 4]) (rest := [.int 0]) (v := (some (.int 8))) (h1 := (hG σ sr ln Lc μ)) rfl rfl rfl (sp_J0_length_8abf5_4 (d + 2) _) ?_
  refine am_g 4 15 [some (.ref 20), some (.ref 4), some (.int 0)] [.int (σ 8 0), .int 0] (hG σ sr ln Lc μ) rfl ?_
  rw [show (σ 8 0) = (nI T) from hT]
  refine am_g 1 (if (nI T) ≤ 0 then 40 else 18) [some (.ref 20), some (.ref 4), some (.int 0)] [] (hG σ sr ln Lc μ) rfl (am_brR (fun c1 => ?_) (fun c1 => ?_))
  · skip
    refine am_g 1 41 [some (.ref 20), some (.ref 4), some (.int 0)] [.int 0] (hG σ sr ln Lc μ) rfl ?_
    exact am_ret2 rfl rfl rfl (congrArg (fun z => some (Value.int (nI z))) (show 0 = pu_mt (σ 7) T (pu_fm 4) 0 from (if_pos c1 : pu_mt (σ 7) T (pu_fm 4) 0 = 0).symm)) rfl
  · skip
    refine am_g 2 20 [some (.ref 20), some (.ref 4), some (.int 0)] [.int 0, .ref 20] (hG σ sr ln Lc μ) rfl ?_
    refine am_call (y := 73) (vs := [.ref 20, .int 0]) (rest := []) (v := (some (.int (σ 7 0)))) (h1 := (hG σ sr ln Lc μ)) rfl rfl rfl (sp_X9_byteAt_lo (d + 3) hT hT20 0 (nI_lt_of (Int32.not_le.mp c1) hT20 (by decide))) ?_
    refine am_g 2 25 [some (.ref 20), some (.ref 4), some (.int 0)] [.int 0, .ref 4, .int (σ 7 0)] (hG σ sr ln Lc μ) rfl ?_
    refine am_call (y := 213) (vs := [.ref 4, .int 0]) (rest := [.int (σ 7 0)]) (v := (some (.int 120))) (h1 := (hG σ sr ln Lc μ)) rfl rfl rfl (sp_J0_charAt_5068e_4_0 d _) ?_
    cases e2 : pu_su 120 (σ 7 0) with
    | false =>
      refine am_call (y := 75) (vs := [.int (σ 7 0), .int 120]) (rest := []) (v := (some (.int 0))) (h1 := (hG σ sr ln Lc μ)) rfl rfl rfl (sp_X9_suits_120 (d + 2) _ _ e2) ?_
      refine am_g 2 41 [some (.ref 20), some (.ref 4), some (.int 0)] [.int 0] (hG σ sr ln Lc μ) rfl ?_
      exact am_ret2 rfl rfl rfl (congrArg (fun z => some (Value.int (nI z))) (show 0 = pu_mt (σ 7) T (pu_fm 4) 0 from ((if_neg c1).trans ((congrArg (fun b => bif b then _ else _) e2).trans (rfl)) : pu_mt (σ 7) T (pu_fm 4) 0 = 0).symm)) rfl
    | true =>
      refine am_call (y := 75) (vs := [.int (σ 7 0), .int 120]) (rest := []) (v := (some (.int 1))) (h1 := (hG σ sr ln Lc μ)) rfl rfl rfl (sp_X9_suits_120 (d + 2) _ _ e2) ?_
      refine am_g 5 4 [some (.ref 20), some (.ref 4), some (.int 1)] [.ref 4, .int 1] (hG σ sr ln Lc μ) rfl ?_
      refine am_call (y := 212) (vs := [.ref 4]) (rest := [.int 1]) (v := (some (.int 8))) (h1 := (hG σ sr ln Lc μ)) rfl rfl rfl (sp_J0_length_8abf5_4 (d + 2) _) ?_
      refine am_g 4 15 [some (.ref 20), some (.ref 4), some (.int 1)] [.int (σ 8 0), .int 1] (hG σ sr ln Lc μ) rfl ?_
      rw [show (σ 8 0) = (nI T) from hT]
      refine am_g 1 (if (nI T) ≤ 1 then 40 else 18) [some (.ref 20), some (.ref 4), some (.int 1)] [] (hG σ sr ln Lc μ) rfl (am_brR (fun c3 => ?_) (fun c3 => ?_))
      · skip
        refine am_g 1 41 [some (.ref 20), some (.ref 4), some (.int 1)] [.int 1] (hG σ sr ln Lc μ) rfl ?_
        exact am_ret2 rfl rfl rfl (congrArg (fun z => some (Value.int (nI z))) (show 1 = pu_mt (σ 7) T (pu_fm 4) 0 from ((if_neg c1).trans ((congrArg (fun b => bif b then _ else _) e2).trans (if_pos c3)) : pu_mt (σ 7) T (pu_fm 4) 0 = 1).symm)) rfl
      · skip
        refine am_g 2 20 [some (.ref 20), some (.ref 4), some (.int 1)] [.int 1, .ref 20] (hG σ sr ln Lc μ) rfl ?_
        refine am_call (y := 73) (vs := [.ref 20, .int 1]) (rest := []) (v := (some (.int (σ 7 1)))) (h1 := (hG σ sr ln Lc μ)) rfl rfl rfl (sp_X9_byteAt_lo (d + 3) hT hT20 1 (nI_lt_of (Int32.not_le.mp c3) hT20 (by decide))) ?_
        refine am_g 2 25 [some (.ref 20), some (.ref 4), some (.int 1)] [.int 1, .ref 4, .int (σ 7 1)] (hG σ sr ln Lc μ) rfl ?_
        refine am_call (y := 213) (vs := [.ref 4, .int 1]) (rest := [.int (σ 7 1)]) (v := (some (.int 61))) (h1 := (hG σ sr ln Lc μ)) rfl rfl rfl (sp_J0_charAt_5068e_4_1 d _) ?_
        cases e4 : pu_su 61 (σ 7 1) with
        | false =>
          refine am_call (y := 75) (vs := [.int (σ 7 1), .int 61]) (rest := []) (v := (some (.int 0))) (h1 := (hG σ sr ln Lc μ)) rfl rfl rfl (sp_X9_suits_61 (d + 2) _ _ e4) ?_
          refine am_g 2 41 [some (.ref 20), some (.ref 4), some (.int 1)] [.int 1] (hG σ sr ln Lc μ) rfl ?_
          exact am_ret2 rfl rfl rfl (congrArg (fun z => some (Value.int (nI z))) (show 1 = pu_mt (σ 7) T (pu_fm 4) 0 from ((if_neg c1).trans ((congrArg (fun b => bif b then _ else _) e2).trans ((if_neg c3).trans ((congrArg (fun b => bif b then _ else _) e4).trans (rfl)))) : pu_mt (σ 7) T (pu_fm 4) 0 = 1).symm)) rfl
        | true =>
          refine am_call (y := 75) (vs := [.int (σ 7 1), .int 61]) (rest := []) (v := (some (.int 1))) (h1 := (hG σ sr ln Lc μ)) rfl rfl rfl (sp_X9_suits_61 (d + 2) _ _ e4) ?_
          refine am_g 5 4 [some (.ref 20), some (.ref 4), some (.int 2)] [.ref 4, .int 2] (hG σ sr ln Lc μ) rfl ?_
          refine am_call (y := 212) (vs := [.ref 4]) (rest := [.int 2]) (v := (some (.int 8))) (h1 := (hG σ sr ln Lc μ)) rfl rfl rfl (sp_J0_length_8abf5_4 (d + 2) _) ?_
          refine am_g 4 15 [some (.ref 20), some (.ref 4), some (.int 2)] [.int (σ 8 0), .int 2] (hG σ sr ln Lc μ) rfl ?_
          rw [show (σ 8 0) = (nI T) from hT]
          refine am_g 1 (if (nI T) ≤ 2 then 40 else 18) [some (.ref 20), some (.ref 4), some (.int 2)] [] (hG σ sr ln Lc μ) rfl (am_brR (fun c5 => ?_) (fun c5 => ?_))
          · skip
            refine am_g 1 41 [some (.ref 20), some (.ref 4), some (.int 2)] [.int 2] (hG σ sr ln Lc μ) rfl ?_
            exact am_ret2 rfl rfl rfl (congrArg (fun z => some (Value.int (nI z))) (show 2 = pu_mt (σ 7) T (pu_fm 4) 0 from ((if_neg c1).trans ((congrArg (fun b => bif b then _ else _) e2).trans ((if_neg c3).trans ((congrArg (fun b => bif b then _ else _) e4).trans (if_pos c5)))) : pu_mt (σ 7) T (pu_fm 4) 0 = 2).symm)) rfl
          · skip
            refine am_g 2 20 [some (.ref 20), some (.ref 4), some (.int 2)] [.int 2, .ref 20] (hG σ sr ln Lc μ) rfl ?_
            refine am_call (y := 73) (vs := [.ref 20, .int 2]) (rest := []) (v := (some (.int (σ 7 2)))) (h1 := (hG σ sr ln Lc μ)) rfl rfl rfl (sp_X9_byteAt_lo (d + 3) hT hT20 2 (nI_lt_of (Int32.not_le.mp c5) hT20 (by decide))) ?_
            refine am_g 2 25 [some (.ref 20), some (.ref 4), some (.int 2)] [.int 2, .ref 4, .int (σ 7 2)] (hG σ sr ln Lc μ) rfl ?_
            refine am_call (y := 213) (vs := [.ref 4, .int 2]) (rest := [.int (σ 7 2)]) (v := (some (.int 121))) (h1 := (hG σ sr ln Lc μ)) rfl rfl rfl (sp_J0_charAt_5068e_4_2 d _) ?_
            cases e6 : pu_su 121 (σ 7 2) with
            | false =>
              refine am_call (y := 75) (vs := [.int (σ 7 2), .int 121]) (rest := []) (v := (some (.int 0))) (h1 := (hG σ sr ln Lc μ)) rfl rfl rfl (sp_X9_suits_121 (d + 2) _ _ e6) ?_
              refine am_g 2 41 [some (.ref 20), some (.ref 4), some (.int 2)] [.int 2] (hG σ sr ln Lc μ) rfl ?_
              exact am_ret2 rfl rfl rfl (congrArg (fun z => some (Value.int (nI z))) (show 2 = pu_mt (σ 7) T (pu_fm 4) 0 from ((if_neg c1).trans ((congrArg (fun b => bif b then _ else _) e2).trans ((if_neg c3).trans ((congrArg (fun b => bif b then _ else _) e4).trans ((if_neg c5).trans ((congrArg (fun b => bif b then _ else _) e6).trans (rfl)))))) : pu_mt (σ 7) T (pu_fm 4) 0 = 2).symm)) rfl
            | true =>
              refine am_call (y := 75) (vs := [.int (σ 7 2), .int 121]) (rest := []) (v := (some (.int 1))) (h1 := (hG σ sr ln Lc μ)) rfl rfl rfl (sp_X9_suits_121 (d + 2) _ _ e6) ?_
              refine am_g 5 4 [some (.ref 20), some (.ref 4), some (.int 3)] [.ref 4, .int 3] (hG σ sr ln Lc μ) rfl ?_
              refine am_call (y := 212) (vs := [.ref 4]) (rest := [.int 3]) (v := (some (.int 8))) (h1 := (hG σ sr ln Lc μ)) rfl rfl rfl (sp_J0_length_8abf5_4 (d + 2) _) ?_
              refine am_g 4 15 [some (.ref 20), some (.ref 4), some (.int 3)] [.int (σ 8 0), .int 3] (hG σ sr ln Lc μ) rfl ?_
              rw [show (σ 8 0) = (nI T) from hT]
              refine am_g 1 (if (nI T) ≤ 3 then 40 else 18) [some (.ref 20), some (.ref 4), some (.int 3)] [] (hG σ sr ln Lc μ) rfl (am_brR (fun c7 => ?_) (fun c7 => ?_))
              · skip
                refine am_g 1 41 [some (.ref 20), some (.ref 4), some (.int 3)] [.int 3] (hG σ sr ln Lc μ) rfl ?_
                exact am_ret2 rfl rfl rfl (congrArg (fun z => some (Value.int (nI z))) (show 3 = pu_mt (σ 7) T (pu_fm 4) 0 from ((if_neg c1).trans ((congrArg (fun b => bif b then _ else _) e2).trans ((if_neg c3).trans ((congrArg (fun b => bif b then _ else _) e4).trans ((if_neg c5).trans ((congrArg (fun b => bif b then _ else _) e6).trans (if_pos c7)))))) : pu_mt (σ 7) T (pu_fm 4) 0 = 3).symm)) rfl
              · skip
                refine am_g 2 20 [some (.ref 20), some (.ref 4), some (.int 3)] [.int 3, .ref 20] (hG σ sr ln Lc μ) rfl ?_
                refine am_call (y := 73) (vs := [.ref 20, .int 3]) (rest := []) (v := (some (.int (σ 7 3)))) (h1 := (hG σ sr ln Lc μ)) rfl rfl rfl (sp_X9_byteAt_lo (d + 3) hT hT20 3 (nI_lt_of (Int32.not_le.mp c7) hT20 (by decide))) ?_
                refine am_g 2 25 [some (.ref 20), some (.ref 4), some (.int 3)] [.int 3, .ref 4, .int (σ 7 3)] (hG σ sr ln Lc μ) rfl ?_
                refine am_call (y := 213) (vs := [.ref 4, .int 3]) (rest := [.int (σ 7 3)]) (v := (some (.int 58))) (h1 := (hG σ sr ln Lc μ)) rfl rfl rfl (sp_J0_charAt_5068e_4_3 d _) ?_
                cases e8 : pu_su 58 (σ 7 3) with
                | false =>
                  refine am_call (y := 75) (vs := [.int (σ 7 3), .int 58]) (rest := []) (v := (some (.int 0))) (h1 := (hG σ sr ln Lc μ)) rfl rfl rfl (sp_X9_suits_58 (d + 2) _ _ e8) ?_
                  refine am_g 2 41 [some (.ref 20), some (.ref 4), some (.int 3)] [.int 3] (hG σ sr ln Lc μ) rfl ?_
                  exact am_ret2 rfl rfl rfl (congrArg (fun z => some (Value.int (nI z))) (show 3 = pu_mt (σ 7) T (pu_fm 4) 0 from ((if_neg c1).trans ((congrArg (fun b => bif b then _ else _) e2).trans ((if_neg c3).trans ((congrArg (fun b => bif b then _ else _) e4).trans ((if_neg c5).trans ((congrArg (fun b => bif b then _ else _) e6).trans ((if_neg c7).trans ((congrArg (fun b => bif b then _ else _) e8).trans (rfl)))))))) : pu_mt (σ 7) T (pu_fm 4) 0 = 3).symm)) rfl
                | true =>
                  refine am_call (y := 75) (vs := [.int (σ 7 3), .int 58]) (rest := []) (v := (some (.int 1))) (h1 := (hG σ sr ln Lc μ)) rfl rfl rfl (sp_X9_suits_58 (d + 2) _ _ e8) ?_
                  refine am_g 5 4 [some (.ref 20), some (.ref 4), some (.int 4)] [.ref 4, .int 4] (hG σ sr ln Lc μ) rfl ?_
                  refine am_call (y := 212) (vs := [.ref 4]) (rest := [.int 4]) (v := (some (.int 8))) (h1 := (hG σ sr ln Lc μ)) rfl rfl rfl (sp_J0_length_8abf5_4 (d + 2) _) ?_
                  refine am_g 4 15 [some (.ref 20), some (.ref 4), some (.int 4)] [.int (σ 8 0), .int 4] (hG σ sr ln Lc μ) rfl ?_
                  rw [show (σ 8 0) = (nI T) from hT]
                  refine am_g 1 (if (nI T) ≤ 4 then 40 else 18) [some (.ref 20), some (.ref 4), some (.int 4)] [] (hG σ sr ln Lc μ) rfl (am_brR (fun c9 => ?_) (fun c9 => ?_))
                  · skip
                    refine am_g 1 41 [some (.ref 20), some (.ref 4), some (.int 4)] [.int 4] (hG σ sr ln Lc μ) rfl ?_
                    exact am_ret2 rfl rfl rfl (congrArg (fun z => some (Value.int (nI z))) (show 4 = pu_mt (σ 7) T (pu_fm 4) 0 from ((if_neg c1).trans ((congrArg (fun b => bif b then _ else _) e2).trans ((if_neg c3).trans ((congrArg (fun b => bif b then _ else _) e4).trans ((if_neg c5).trans ((congrArg (fun b => bif b then _ else _) e6).trans ((if_neg c7).trans ((congrArg (fun b => bif b then _ else _) e8).trans (if_pos c9)))))))) : pu_mt (σ 7) T (pu_fm 4) 0 = 4).symm)) rfl
                  · skip
                    refine am_g 2 20 [some (.ref 20), some (.ref 4), some (.int 4)] [.int 4, .ref 20] (hG σ sr ln Lc μ) rfl ?_
                    refine am_call (y := 73) (vs := [.ref 20, .int 4]) (rest := []) (v := (some (.int (σ 7 4)))) (h1 := (hG σ sr ln Lc μ)) rfl rfl rfl (sp_X9_byteAt_lo (d + 3) hT hT20 4 (nI_lt_of (Int32.not_le.mp c9) hT20 (by decide))) ?_
                    refine am_g 2 25 [some (.ref 20), some (.ref 4), some (.int 4)] [.int 4, .ref 4, .int (σ 7 4)] (hG σ sr ln Lc μ) rfl ?_
                    refine am_call (y := 213) (vs := [.ref 4, .int 4]) (rest := [.int (σ 7 4)]) (v := (some (.int 50))) (h1 := (hG σ sr ln Lc μ)) rfl rfl rfl (sp_J0_charAt_5068e_4_4 d _) ?_
                    cases e10 : pu_su 50 (σ 7 4) with
                    | false =>
                      refine am_call (y := 75) (vs := [.int (σ 7 4), .int 50]) (rest := []) (v := (some (.int 0))) (h1 := (hG σ sr ln Lc μ)) rfl rfl rfl (sp_X9_suits_50 (d + 2) _ _ e10) ?_
                      refine am_g 2 41 [some (.ref 20), some (.ref 4), some (.int 4)] [.int 4] (hG σ sr ln Lc μ) rfl ?_
                      exact am_ret2 rfl rfl rfl (congrArg (fun z => some (Value.int (nI z))) (show 4 = pu_mt (σ 7) T (pu_fm 4) 0 from ((if_neg c1).trans ((congrArg (fun b => bif b then _ else _) e2).trans ((if_neg c3).trans ((congrArg (fun b => bif b then _ else _) e4).trans ((if_neg c5).trans ((congrArg (fun b => bif b then _ else _) e6).trans ((if_neg c7).trans ((congrArg (fun b => bif b then _ else _) e8).trans ((if_neg c9).trans ((congrArg (fun b => bif b then _ else _) e10).trans (rfl)))))))))) : pu_mt (σ 7) T (pu_fm 4) 0 = 4).symm)) rfl
                    | true =>
                      refine am_call (y := 75) (vs := [.int (σ 7 4), .int 50]) (rest := []) (v := (some (.int 1))) (h1 := (hG σ sr ln Lc μ)) rfl rfl rfl (sp_X9_suits_50 (d + 2) _ _ e10) ?_
                      refine am_g 5 4 [some (.ref 20), some (.ref 4), some (.int 5)] [.ref 4, .int 5] (hG σ sr ln Lc μ) rfl ?_
                      refine am_call (y := 212) (vs := [.ref 4]) (rest := [.int 5]) (v := (some (.int 8))) (h1 := (hG σ sr ln Lc μ)) rfl rfl rfl (sp_J0_length_8abf5_4 (d + 2) _) ?_
                      refine am_g 4 15 [some (.ref 20), some (.ref 4), some (.int 5)] [.int (σ 8 0), .int 5] (hG σ sr ln Lc μ) rfl ?_
                      rw [show (σ 8 0) = (nI T) from hT]
                      refine am_g 1 (if (nI T) ≤ 5 then 40 else 18) [some (.ref 20), some (.ref 4), some (.int 5)] [] (hG σ sr ln Lc μ) rfl (am_brR (fun c11 => ?_) (fun c11 => ?_))
                      · skip
                        refine am_g 1 41 [some (.ref 20), some (.ref 4), some (.int 5)] [.int 5] (hG σ sr ln Lc μ) rfl ?_
                        exact am_ret2 rfl rfl rfl (congrArg (fun z => some (Value.int (nI z))) (show 5 = pu_mt (σ 7) T (pu_fm 4) 0 from ((if_neg c1).trans ((congrArg (fun b => bif b then _ else _) e2).trans ((if_neg c3).trans ((congrArg (fun b => bif b then _ else _) e4).trans ((if_neg c5).trans ((congrArg (fun b => bif b then _ else _) e6).trans ((if_neg c7).trans ((congrArg (fun b => bif b then _ else _) e8).trans ((if_neg c9).trans ((congrArg (fun b => bif b then _ else _) e10).trans (if_pos c11)))))))))) : pu_mt (σ 7) T (pu_fm 4) 0 = 5).symm)) rfl
                      · skip
                        refine am_g 2 20 [some (.ref 20), some (.ref 4), some (.int 5)] [.int 5, .ref 20] (hG σ sr ln Lc μ) rfl ?_
                        refine am_call (y := 73) (vs := [.ref 20, .int 5]) (rest := []) (v := (some (.int (σ 7 5)))) (h1 := (hG σ sr ln Lc μ)) rfl rfl rfl (sp_X9_byteAt_lo (d + 3) hT hT20 5 (nI_lt_of (Int32.not_le.mp c11) hT20 (by decide))) ?_
                        refine am_g 2 25 [some (.ref 20), some (.ref 4), some (.int 5)] [.int 5, .ref 4, .int (σ 7 5)] (hG σ sr ln Lc μ) rfl ?_
                        refine am_call (y := 213) (vs := [.ref 4, .int 5]) (rest := [.int (σ 7 5)]) (v := (some (.int 40))) (h1 := (hG σ sr ln Lc μ)) rfl rfl rfl (sp_J0_charAt_5068e_4_5 d _) ?_
                        cases e12 : pu_su 40 (σ 7 5) with
                        | false =>
                          refine am_call (y := 75) (vs := [.int (σ 7 5), .int 40]) (rest := []) (v := (some (.int 0))) (h1 := (hG σ sr ln Lc μ)) rfl rfl rfl (sp_X9_suits_40 (d + 2) _ _ e12) ?_
                          refine am_g 2 41 [some (.ref 20), some (.ref 4), some (.int 5)] [.int 5] (hG σ sr ln Lc μ) rfl ?_
                          exact am_ret2 rfl rfl rfl (congrArg (fun z => some (Value.int (nI z))) (show 5 = pu_mt (σ 7) T (pu_fm 4) 0 from ((if_neg c1).trans ((congrArg (fun b => bif b then _ else _) e2).trans ((if_neg c3).trans ((congrArg (fun b => bif b then _ else _) e4).trans ((if_neg c5).trans ((congrArg (fun b => bif b then _ else _) e6).trans ((if_neg c7).trans ((congrArg (fun b => bif b then _ else _) e8).trans ((if_neg c9).trans ((congrArg (fun b => bif b then _ else _) e10).trans ((if_neg c11).trans ((congrArg (fun b => bif b then _ else _) e12).trans (rfl)))))))))))) : pu_mt (σ 7) T (pu_fm 4) 0 = 5).symm)) rfl
                        | true =>
                          refine am_call (y := 75) (vs := [.int (σ 7 5), .int 40]) (rest := []) (v := (some (.int 1))) (h1 := (hG σ sr ln Lc μ)) rfl rfl rfl (sp_X9_suits_40 (d + 2) _ _ e12) ?_
                          refine am_g 5 4 [some (.ref 20), some (.ref 4), some (.int 6)] [.ref 4, .int 6] (hG σ sr ln Lc μ) rfl ?_
                          refine am_call (y := 212) (vs := [.ref 4]) (rest := [.int 6]) (v := (some (.int 8))) (h1 := (hG σ sr ln Lc μ)) rfl rfl rfl (sp_J0_length_8abf5_4 (d + 2) _) ?_
                          refine am_g 4 15 [some (.ref 20), some (.ref 4), some (.int 6)] [.int (σ 8 0), .int 6] (hG σ sr ln Lc μ) rfl ?_
                          rw [show (σ 8 0) = (nI T) from hT]
                          refine am_g 1 (if (nI T) ≤ 6 then 40 else 18) [some (.ref 20), some (.ref 4), some (.int 6)] [] (hG σ sr ln Lc μ) rfl (am_brR (fun c13 => ?_) (fun c13 => ?_))
                          · skip
                            refine am_g 1 41 [some (.ref 20), some (.ref 4), some (.int 6)] [.int 6] (hG σ sr ln Lc μ) rfl ?_
                            exact am_ret2 rfl rfl rfl (congrArg (fun z => some (Value.int (nI z))) (show 6 = pu_mt (σ 7) T (pu_fm 4) 0 from ((if_neg c1).trans ((congrArg (fun b => bif b then _ else _) e2).trans ((if_neg c3).trans ((congrArg (fun b => bif b then _ else _) e4).trans ((if_neg c5).trans ((congrArg (fun b => bif b then _ else _) e6).trans ((if_neg c7).trans ((congrArg (fun b => bif b then _ else _) e8).trans ((if_neg c9).trans ((congrArg (fun b => bif b then _ else _) e10).trans ((if_neg c11).trans ((congrArg (fun b => bif b then _ else _) e12).trans (if_pos c13)))))))))))) : pu_mt (σ 7) T (pu_fm 4) 0 = 6).symm)) rfl
                          · skip
                            refine am_g 2 20 [some (.ref 20), some (.ref 4), some (.int 6)] [.int 6, .ref 20] (hG σ sr ln Lc μ) rfl ?_
                            refine am_call (y := 73) (vs := [.ref 20, .int 6]) (rest := []) (v := (some (.int (σ 7 6)))) (h1 := (hG σ sr ln Lc μ)) rfl rfl rfl (sp_X9_byteAt_lo (d + 3) hT hT20 6 (nI_lt_of (Int32.not_le.mp c13) hT20 (by decide))) ?_
                            refine am_g 2 25 [some (.ref 20), some (.ref 4), some (.int 6)] [.int 6, .ref 4, .int (σ 7 6)] (hG σ sr ln Lc μ) rfl ?_
                            refine am_call (y := 213) (vs := [.ref 4, .int 6]) (rest := [.int (σ 7 6)]) (v := (some (.int 122))) (h1 := (hG σ sr ln Lc μ)) rfl rfl rfl (sp_J0_charAt_5068e_4_6 d _) ?_
                            cases e14 : pu_su 122 (σ 7 6) with
                            | false =>
                              refine am_call (y := 75) (vs := [.int (σ 7 6), .int 122]) (rest := []) (v := (some (.int 0))) (h1 := (hG σ sr ln Lc μ)) rfl rfl rfl (sp_X9_suits_122 (d + 2) _ _ e14) ?_
                              refine am_g 2 41 [some (.ref 20), some (.ref 4), some (.int 6)] [.int 6] (hG σ sr ln Lc μ) rfl ?_
                              exact am_ret2 rfl rfl rfl (congrArg (fun z => some (Value.int (nI z))) (show 6 = pu_mt (σ 7) T (pu_fm 4) 0 from ((if_neg c1).trans ((congrArg (fun b => bif b then _ else _) e2).trans ((if_neg c3).trans ((congrArg (fun b => bif b then _ else _) e4).trans ((if_neg c5).trans ((congrArg (fun b => bif b then _ else _) e6).trans ((if_neg c7).trans ((congrArg (fun b => bif b then _ else _) e8).trans ((if_neg c9).trans ((congrArg (fun b => bif b then _ else _) e10).trans ((if_neg c11).trans ((congrArg (fun b => bif b then _ else _) e12).trans ((if_neg c13).trans ((congrArg (fun b => bif b then _ else _) e14).trans (rfl)))))))))))))) : pu_mt (σ 7) T (pu_fm 4) 0 = 6).symm)) rfl
                            | true =>
                              refine am_call (y := 75) (vs := [.int (σ 7 6), .int 122]) (rest := []) (v := (some (.int 1))) (h1 := (hG σ sr ln Lc μ)) rfl rfl rfl (sp_X9_suits_122 (d + 2) _ _ e14) ?_
                              refine am_g 5 4 [some (.ref 20), some (.ref 4), some (.int 7)] [.ref 4, .int 7] (hG σ sr ln Lc μ) rfl ?_
                              refine am_call (y := 212) (vs := [.ref 4]) (rest := [.int 7]) (v := (some (.int 8))) (h1 := (hG σ sr ln Lc μ)) rfl rfl rfl (sp_J0_length_8abf5_4 (d + 2) _) ?_
                              refine am_g 4 15 [some (.ref 20), some (.ref 4), some (.int 7)] [.int (σ 8 0), .int 7] (hG σ sr ln Lc μ) rfl ?_
                              rw [show (σ 8 0) = (nI T) from hT]
                              refine am_g 1 (if (nI T) ≤ 7 then 40 else 18) [some (.ref 20), some (.ref 4), some (.int 7)] [] (hG σ sr ln Lc μ) rfl (am_brR (fun c15 => ?_) (fun c15 => ?_))
                              · skip
                                refine am_g 1 41 [some (.ref 20), some (.ref 4), some (.int 7)] [.int 7] (hG σ sr ln Lc μ) rfl ?_
                                exact am_ret2 rfl rfl rfl (congrArg (fun z => some (Value.int (nI z))) (show 7 = pu_mt (σ 7) T (pu_fm 4) 0 from ((if_neg c1).trans ((congrArg (fun b => bif b then _ else _) e2).trans ((if_neg c3).trans ((congrArg (fun b => bif b then _ else _) e4).trans ((if_neg c5).trans ((congrArg (fun b => bif b then _ else _) e6).trans ((if_neg c7).trans ((congrArg (fun b => bif b then _ else _) e8).trans ((if_neg c9).trans ((congrArg (fun b => bif b then _ else _) e10).trans ((if_neg c11).trans ((congrArg (fun b => bif b then _ else _) e12).trans ((if_neg c13).trans ((congrArg (fun b => bif b then _ else _) e14).trans (if_pos c15)))))))))))))) : pu_mt (σ 7) T (pu_fm 4) 0 = 7).symm)) rfl
                              · skip
                                refine am_g 2 20 [some (.ref 20), some (.ref 4), some (.int 7)] [.int 7, .ref 20] (hG σ sr ln Lc μ) rfl ?_
                                refine am_call (y := 73) (vs := [.ref 20, .int 7]) (rest := []) (v := (some (.int (σ 7 7)))) (h1 := (hG σ sr ln Lc μ)) rfl rfl rfl (sp_X9_byteAt_lo (d + 3) hT hT20 7 (nI_lt_of (Int32.not_le.mp c15) hT20 (by decide))) ?_
                                refine am_g 2 25 [some (.ref 20), some (.ref 4), some (.int 7)] [.int 7, .ref 4, .int (σ 7 7)] (hG σ sr ln Lc μ) rfl ?_
                                refine am_call (y := 213) (vs := [.ref 4, .int 7]) (rest := [.int (σ 7 7)]) (v := (some (.int 41))) (h1 := (hG σ sr ln Lc μ)) rfl rfl rfl (sp_J0_charAt_5068e_4_7 d _) ?_
                                cases e16 : pu_su 41 (σ 7 7) with
                                | false =>
                                  refine am_call (y := 75) (vs := [.int (σ 7 7), .int 41]) (rest := []) (v := (some (.int 0))) (h1 := (hG σ sr ln Lc μ)) rfl rfl rfl (sp_X9_suits_41 (d + 2) _ _ e16) ?_
                                  refine am_g 2 41 [some (.ref 20), some (.ref 4), some (.int 7)] [.int 7] (hG σ sr ln Lc μ) rfl ?_
                                  exact am_ret2 rfl rfl rfl (congrArg (fun z => some (Value.int (nI z))) (show 7 = pu_mt (σ 7) T (pu_fm 4) 0 from ((if_neg c1).trans ((congrArg (fun b => bif b then _ else _) e2).trans ((if_neg c3).trans ((congrArg (fun b => bif b then _ else _) e4).trans ((if_neg c5).trans ((congrArg (fun b => bif b then _ else _) e6).trans ((if_neg c7).trans ((congrArg (fun b => bif b then _ else _) e8).trans ((if_neg c9).trans ((congrArg (fun b => bif b then _ else _) e10).trans ((if_neg c11).trans ((congrArg (fun b => bif b then _ else _) e12).trans ((if_neg c13).trans ((congrArg (fun b => bif b then _ else _) e14).trans ((if_neg c15).trans ((congrArg (fun b => bif b then _ else _) e16).trans (rfl)))))))))))))))) : pu_mt (σ 7) T (pu_fm 4) 0 = 7).symm)) rfl
                                | true =>
                                  refine am_call (y := 75) (vs := [.int (σ 7 7), .int 41]) (rest := []) (v := (some (.int 1))) (h1 := (hG σ sr ln Lc μ)) rfl rfl rfl (sp_X9_suits_41 (d + 2) _ _ e16) ?_
                                  refine am_g 5 4 [some (.ref 20), some (.ref 4), some (.int 8)] [.ref 4, .int 8] (hG σ sr ln Lc μ) rfl ?_
                                  refine am_call (y := 212) (vs := [.ref 4]) (rest := [.int 8]) (v := (some (.int 8))) (h1 := (hG σ sr ln Lc μ)) rfl rfl rfl (sp_J0_length_8abf5_4 (d + 2) _) ?_
                                  refine am_g 2 41 [some (.ref 20), some (.ref 4), some (.int 8)] [.int 8] (hG σ sr ln Lc μ) rfl ?_
                                  exact am_ret2 rfl rfl rfl (congrArg (fun z => some (Value.int (nI z))) (show 8 = pu_mt (σ 7) T (pu_fm 4) 0 from ((if_neg c1).trans ((congrArg (fun b => bif b then _ else _) e2).trans ((if_neg c3).trans ((congrArg (fun b => bif b then _ else _) e4).trans ((if_neg c5).trans ((congrArg (fun b => bif b then _ else _) e6).trans ((if_neg c7).trans ((congrArg (fun b => bif b then _ else _) e8).trans ((if_neg c9).trans ((congrArg (fun b => bif b then _ else _) e10).trans ((if_neg c11).trans ((congrArg (fun b => bif b then _ else _) e12).trans ((if_neg c13).trans ((congrArg (fun b => bif b then _ else _) e14).trans ((if_neg c15).trans ((congrArg (fun b => bif b then _ else _) e16).trans (rfl)))))))))))))))) : pu_mt (σ 7) T (pu_fm 4) 0 = 8).symm)) rfl
theorem sp_X9_matched_5 (d : Nat) {T : Nat} (hT : σ 8 0 = nI T) (hT20 : T ≤ 20) : am_X xs LL (d + 5) 76 [.ref 20, .ref 5] (hG σ sr ln Lc μ) (some (.int (nI (pu_mt (σ 7) T (pu_fm 5) 0)))) (hG σ sr ln Lc μ) := by
  refine am_XR (d := d + 4) (C := cd_X9_matched) (L := [some (.ref 20), some (.ref 5), none]) rfl rfl rfl rfl ?_
  refine am_g 4 4 [some (.ref 20), some (.ref 5), some (.int 0)] [.ref 5, .int 0] (hG σ sr ln Lc μ) rfl ?_
  refine am_call (y := 212) (vs := [.ref 5]) (rest := [.int 0]) (v := (some (.int 4))) (h1 := (hG σ sr ln Lc μ)) rfl rfl rfl (sp_J0_length_8abf5_5 (d + 2) _) ?_
  refine am_g 4 15 [some (.ref 20), some (.ref 5), some (.int 0)] [.int (σ 8 0), .int 0] (hG σ sr ln Lc μ) rfl ?_
  rw [show (σ 8 0) = (nI T) from hT]
  refine am_g 1 (if (nI T) ≤ 0 then 40 else 18) [some (.ref 20), some (.ref 5), some (.int 0)] [] (hG σ sr ln Lc μ) rfl (am_brR (fun c1 => ?_) (fun c1 => ?_))
  · skip
    refine am_g 1 41 [some (.ref 20), some (.ref 5), some (.int 0)] [.int 0] (hG σ sr ln Lc μ) rfl ?_
    exact am_ret2 rfl rfl rfl (congrArg (fun z => some (Value.int (nI z))) (show 0 = pu_mt (σ 7) T (pu_fm 5) 0 from (if_pos c1 : pu_mt (σ 7) T (pu_fm 5) 0 = 0).symm)) rfl
  · skip
    refine am_g 2 20 [some (.ref 20), some (.ref 5), some (.int 0)] [.int 0, .ref 20] (hG σ sr ln Lc μ) rfl ?_
    refine am_call (y := 73) (vs := [.ref 20, .int 0]) (rest := []) (v := (some (.int (σ 7 0)))) (h1 := (hG σ sr ln Lc μ)) rfl rfl rfl (sp_X9_byteAt_lo (d + 3) hT hT20 0 (nI_lt_of (Int32.not_le.mp c1) hT20 (by decide))) ?_
    refine am_g 2 25 [some (.ref 20), some (.ref 5), some (.int 0)] [.int 0, .ref 5, .int (σ 7 0)] (hG σ sr ln Lc μ) rfl ?_
    refine am_call (y := 213) (vs := [.ref 5, .int 0]) (rest := [.int (σ 7 0)]) (v := (some (.int 120))) (h1 := (hG σ sr ln Lc μ)) rfl rfl rfl (sp_J0_charAt_5068e_5_0 d _) ?_
    cases e2 : pu_su 120 (σ 7 0) with
    | false =>
      refine am_call (y := 75) (vs := [.int (σ 7 0), .int 120]) (rest := []) (v := (some (.int 0))) (h1 := (hG σ sr ln Lc μ)) rfl rfl rfl (sp_X9_suits_120 (d + 2) _ _ e2) ?_
      refine am_g 2 41 [some (.ref 20), some (.ref 5), some (.int 0)] [.int 0] (hG σ sr ln Lc μ) rfl ?_
      exact am_ret2 rfl rfl rfl (congrArg (fun z => some (Value.int (nI z))) (show 0 = pu_mt (σ 7) T (pu_fm 5) 0 from ((if_neg c1).trans ((congrArg (fun b => bif b then _ else _) e2).trans (rfl)) : pu_mt (σ 7) T (pu_fm 5) 0 = 0).symm)) rfl
    | true =>
      refine am_call (y := 75) (vs := [.int (σ 7 0), .int 120]) (rest := []) (v := (some (.int 1))) (h1 := (hG σ sr ln Lc μ)) rfl rfl rfl (sp_X9_suits_120 (d + 2) _ _ e2) ?_
      refine am_g 5 4 [some (.ref 20), some (.ref 5), some (.int 1)] [.ref 5, .int 1] (hG σ sr ln Lc μ) rfl ?_
      refine am_call (y := 212) (vs := [.ref 5]) (rest := [.int 1]) (v := (some (.int 4))) (h1 := (hG σ sr ln Lc μ)) rfl rfl rfl (sp_J0_length_8abf5_5 (d + 2) _) ?_
      refine am_g 4 15 [some (.ref 20), some (.ref 5), some (.int 1)] [.int (σ 8 0), .int 1] (hG σ sr ln Lc μ) rfl ?_
      rw [show (σ 8 0) = (nI T) from hT]
      refine am_g 1 (if (nI T) ≤ 1 then 40 else 18) [some (.ref 20), some (.ref 5), some (.int 1)] [] (hG σ sr ln Lc μ) rfl (am_brR (fun c3 => ?_) (fun c3 => ?_))
      · skip
        refine am_g 1 41 [some (.ref 20), some (.ref 5), some (.int 1)] [.int 1] (hG σ sr ln Lc μ) rfl ?_
        exact am_ret2 rfl rfl rfl (congrArg (fun z => some (Value.int (nI z))) (show 1 = pu_mt (σ 7) T (pu_fm 5) 0 from ((if_neg c1).trans ((congrArg (fun b => bif b then _ else _) e2).trans (if_pos c3)) : pu_mt (σ 7) T (pu_fm 5) 0 = 1).symm)) rfl
      · skip
        refine am_g 2 20 [some (.ref 20), some (.ref 5), some (.int 1)] [.int 1, .ref 20] (hG σ sr ln Lc μ) rfl ?_
        refine am_call (y := 73) (vs := [.ref 20, .int 1]) (rest := []) (v := (some (.int (σ 7 1)))) (h1 := (hG σ sr ln Lc μ)) rfl rfl rfl (sp_X9_byteAt_lo (d + 3) hT hT20 1 (nI_lt_of (Int32.not_le.mp c3) hT20 (by decide))) ?_
        refine am_g 2 25 [some (.ref 20), some (.ref 5), some (.int 1)] [.int 1, .ref 5, .int (σ 7 1)] (hG σ sr ln Lc μ) rfl ?_
        refine am_call (y := 213) (vs := [.ref 5, .int 1]) (rest := [.int (σ 7 1)]) (v := (some (.int 61))) (h1 := (hG σ sr ln Lc μ)) rfl rfl rfl (sp_J0_charAt_5068e_5_1 d _) ?_
        cases e4 : pu_su 61 (σ 7 1) with
        | false =>
          refine am_call (y := 75) (vs := [.int (σ 7 1), .int 61]) (rest := []) (v := (some (.int 0))) (h1 := (hG σ sr ln Lc μ)) rfl rfl rfl (sp_X9_suits_61 (d + 2) _ _ e4) ?_
          refine am_g 2 41 [some (.ref 20), some (.ref 5), some (.int 1)] [.int 1] (hG σ sr ln Lc μ) rfl ?_
          exact am_ret2 rfl rfl rfl (congrArg (fun z => some (Value.int (nI z))) (show 1 = pu_mt (σ 7) T (pu_fm 5) 0 from ((if_neg c1).trans ((congrArg (fun b => bif b then _ else _) e2).trans ((if_neg c3).trans ((congrArg (fun b => bif b then _ else _) e4).trans (rfl)))) : pu_mt (σ 7) T (pu_fm 5) 0 = 1).symm)) rfl
        | true =>
          refine am_call (y := 75) (vs := [.int (σ 7 1), .int 61]) (rest := []) (v := (some (.int 1))) (h1 := (hG σ sr ln Lc μ)) rfl rfl rfl (sp_X9_suits_61 (d + 2) _ _ e4) ?_
          refine am_g 5 4 [some (.ref 20), some (.ref 5), some (.int 2)] [.ref 5, .int 2] (hG σ sr ln Lc μ) rfl ?_
          refine am_call (y := 212) (vs := [.ref 5]) (rest := [.int 2]) (v := (some (.int 4))) (h1 := (hG σ sr ln Lc μ)) rfl rfl rfl (sp_J0_length_8abf5_5 (d + 2) _) ?_
          refine am_g 4 15 [some (.ref 20), some (.ref 5), some (.int 2)] [.int (σ 8 0), .int 2] (hG σ sr ln Lc μ) rfl ?_
          rw [show (σ 8 0) = (nI T) from hT]
          refine am_g 1 (if (nI T) ≤ 2 then 40 else 18) [some (.ref 20), some (.ref 5), some (.int 2)] [] (hG σ sr ln Lc μ) rfl (am_brR (fun c5 => ?_) (fun c5 => ?_))
          · skip
            refine am_g 1 41 [some (.ref 20), some (.ref 5), some (.int 2)] [.int 2] (hG σ sr ln Lc μ) rfl ?_
            exact am_ret2 rfl rfl rfl (congrArg (fun z => some (Value.int (nI z))) (show 2 = pu_mt (σ 7) T (pu_fm 5) 0 from ((if_neg c1).trans ((congrArg (fun b => bif b then _ else _) e2).trans ((if_neg c3).trans ((congrArg (fun b => bif b then _ else _) e4).trans (if_pos c5)))) : pu_mt (σ 7) T (pu_fm 5) 0 = 2).symm)) rfl
          · skip
            refine am_g 2 20 [some (.ref 20), some (.ref 5), some (.int 2)] [.int 2, .ref 20] (hG σ sr ln Lc μ) rfl ?_
            refine am_call (y := 73) (vs := [.ref 20, .int 2]) (rest := []) (v := (some (.int (σ 7 2)))) (h1 := (hG σ sr ln Lc μ)) rfl rfl rfl (sp_X9_byteAt_lo (d + 3) hT hT20 2 (nI_lt_of (Int32.not_le.mp c5) hT20 (by decide))) ?_
            refine am_g 2 25 [some (.ref 20), some (.ref 5), some (.int 2)] [.int 2, .ref 5, .int (σ 7 2)] (hG σ sr ln Lc μ) rfl ?_
            refine am_call (y := 213) (vs := [.ref 5, .int 2]) (rest := [.int (σ 7 2)]) (v := (some (.int 33))) (h1 := (hG σ sr ln Lc μ)) rfl rfl rfl (sp_J0_charAt_5068e_5_2 d _) ?_
            cases e6 : pu_su 33 (σ 7 2) with
            | false =>
              refine am_call (y := 75) (vs := [.int (σ 7 2), .int 33]) (rest := []) (v := (some (.int 0))) (h1 := (hG σ sr ln Lc μ)) rfl rfl rfl (sp_X9_suits_33 (d + 2) _ _ e6) ?_
              refine am_g 2 41 [some (.ref 20), some (.ref 5), some (.int 2)] [.int 2] (hG σ sr ln Lc μ) rfl ?_
              exact am_ret2 rfl rfl rfl (congrArg (fun z => some (Value.int (nI z))) (show 2 = pu_mt (σ 7) T (pu_fm 5) 0 from ((if_neg c1).trans ((congrArg (fun b => bif b then _ else _) e2).trans ((if_neg c3).trans ((congrArg (fun b => bif b then _ else _) e4).trans ((if_neg c5).trans ((congrArg (fun b => bif b then _ else _) e6).trans (rfl)))))) : pu_mt (σ 7) T (pu_fm 5) 0 = 2).symm)) rfl
            | true =>
              refine am_call (y := 75) (vs := [.int (σ 7 2), .int 33]) (rest := []) (v := (some (.int 1))) (h1 := (hG σ sr ln Lc μ)) rfl rfl rfl (sp_X9_suits_33 (d + 2) _ _ e6) ?_
              refine am_g 5 4 [some (.ref 20), some (.ref 5), some (.int 3)] [.ref 5, .int 3] (hG σ sr ln Lc μ) rfl ?_
              refine am_call (y := 212) (vs := [.ref 5]) (rest := [.int 3]) (v := (some (.int 4))) (h1 := (hG σ sr ln Lc μ)) rfl rfl rfl (sp_J0_length_8abf5_5 (d + 2) _) ?_
              refine am_g 4 15 [some (.ref 20), some (.ref 5), some (.int 3)] [.int (σ 8 0), .int 3] (hG σ sr ln Lc μ) rfl ?_
              rw [show (σ 8 0) = (nI T) from hT]
              refine am_g 1 (if (nI T) ≤ 3 then 40 else 18) [some (.ref 20), some (.ref 5), some (.int 3)] [] (hG σ sr ln Lc μ) rfl (am_brR (fun c7 => ?_) (fun c7 => ?_))
              · skip
                refine am_g 1 41 [some (.ref 20), some (.ref 5), some (.int 3)] [.int 3] (hG σ sr ln Lc μ) rfl ?_
                exact am_ret2 rfl rfl rfl (congrArg (fun z => some (Value.int (nI z))) (show 3 = pu_mt (σ 7) T (pu_fm 5) 0 from ((if_neg c1).trans ((congrArg (fun b => bif b then _ else _) e2).trans ((if_neg c3).trans ((congrArg (fun b => bif b then _ else _) e4).trans ((if_neg c5).trans ((congrArg (fun b => bif b then _ else _) e6).trans (if_pos c7)))))) : pu_mt (σ 7) T (pu_fm 5) 0 = 3).symm)) rfl
              · skip
                refine am_g 2 20 [some (.ref 20), some (.ref 5), some (.int 3)] [.int 3, .ref 20] (hG σ sr ln Lc μ) rfl ?_
                refine am_call (y := 73) (vs := [.ref 20, .int 3]) (rest := []) (v := (some (.int (σ 7 3)))) (h1 := (hG σ sr ln Lc μ)) rfl rfl rfl (sp_X9_byteAt_lo (d + 3) hT hT20 3 (nI_lt_of (Int32.not_le.mp c7) hT20 (by decide))) ?_
                refine am_g 2 25 [some (.ref 20), some (.ref 5), some (.int 3)] [.int 3, .ref 5, .int (σ 7 3)] (hG σ sr ln Lc μ) rfl ?_
                refine am_call (y := 213) (vs := [.ref 5, .int 3]) (rest := [.int (σ 7 3)]) (v := (some (.int 55))) (h1 := (hG σ sr ln Lc μ)) rfl rfl rfl (sp_J0_charAt_5068e_5_3 d _) ?_
                cases e8 : pu_su 55 (σ 7 3) with
                | false =>
                  refine am_call (y := 75) (vs := [.int (σ 7 3), .int 55]) (rest := []) (v := (some (.int 0))) (h1 := (hG σ sr ln Lc μ)) rfl rfl rfl (sp_X9_suits_55 (d + 2) _ _ e8) ?_
                  refine am_g 2 41 [some (.ref 20), some (.ref 5), some (.int 3)] [.int 3] (hG σ sr ln Lc μ) rfl ?_
                  exact am_ret2 rfl rfl rfl (congrArg (fun z => some (Value.int (nI z))) (show 3 = pu_mt (σ 7) T (pu_fm 5) 0 from ((if_neg c1).trans ((congrArg (fun b => bif b then _ else _) e2).trans ((if_neg c3).trans ((congrArg (fun b => bif b then _ else _) e4).trans ((if_neg c5).trans ((congrArg (fun b => bif b then _ else _) e6).trans ((if_neg c7).trans ((congrArg (fun b => bif b then _ else _) e8).trans (rfl)))))))) : pu_mt (σ 7) T (pu_fm 5) 0 = 3).symm)) rfl
                | true =>
                  refine am_call (y := 75) (vs := [.int (σ 7 3), .int 55]) (rest := []) (v := (some (.int 1))) (h1 := (hG σ sr ln Lc μ)) rfl rfl rfl (sp_X9_suits_55 (d + 2) _ _ e8) ?_
                  refine am_g 5 4 [some (.ref 20), some (.ref 5), some (.int 4)] [.ref 5, .int 4] (hG σ sr ln Lc μ) rfl ?_
                  refine am_call (y := 212) (vs := [.ref 5]) (rest := [.int 4]) (v := (some (.int 4))) (h1 := (hG σ sr ln Lc μ)) rfl rfl rfl (sp_J0_length_8abf5_5 (d + 2) _) ?_
                  refine am_g 2 41 [some (.ref 20), some (.ref 5), some (.int 4)] [.int 4] (hG σ sr ln Lc μ) rfl ?_
                  exact am_ret2 rfl rfl rfl (congrArg (fun z => some (Value.int (nI z))) (show 4 = pu_mt (σ 7) T (pu_fm 5) 0 from ((if_neg c1).trans ((congrArg (fun b => bif b then _ else _) e2).trans ((if_neg c3).trans ((congrArg (fun b => bif b then _ else _) e4).trans ((if_neg c5).trans ((congrArg (fun b => bif b then _ else _) e6).trans ((if_neg c7).trans ((congrArg (fun b => bif b then _ else _) e8).trans (rfl)))))))) : pu_mt (σ 7) T (pu_fm 5) 0 = 4).symm)) rfl
theorem sp_X9_matched_0 (d : Nat) {T : Nat} (hT : σ 8 0 = nI T) (hT20 : T ≤ 20) : am_X xs LL (d + 5) 76 [.ref 20, .ref 6] (hG σ sr ln Lc μ) (some (.int (nI (pu_mt (σ 7) T (pu_fm 0) 0)))) (hG σ sr ln Lc μ) := by
  refine am_XR (d := d + 4) (C := cd_X9_matched) (L := [some (.ref 20), some (.ref 6), none]) rfl rfl rfl rfl ?_
  refine am_g 4 4 [some (.ref 20), some (.ref 6), some (.int 0)] [.ref 6, .int 0] (hG σ sr ln Lc μ) rfl ?_
  refine am_call (y := 212) (vs := [.ref 6]) (rest := [.int 0]) (v := (some (.int 3))) (h1 := (hG σ sr ln Lc μ)) rfl rfl rfl (sp_J0_length_8abf5_6 (d + 2) _) ?_
  refine am_g 4 15 [some (.ref 20), some (.ref 6), some (.int 0)] [.int (σ 8 0), .int 0] (hG σ sr ln Lc μ) rfl ?_
  rw [show (σ 8 0) = (nI T) from hT]
  refine am_g 1 (if (nI T) ≤ 0 then 40 else 18) [some (.ref 20), some (.ref 6), some (.int 0)] [] (hG σ sr ln Lc μ) rfl (am_brR (fun c1 => ?_) (fun c1 => ?_))
  · skip
    refine am_g 1 41 [some (.ref 20), some (.ref 6), some (.int 0)] [.int 0] (hG σ sr ln Lc μ) rfl ?_
    exact am_ret2 rfl rfl rfl (congrArg (fun z => some (Value.int (nI z))) (show 0 = pu_mt (σ 7) T (pu_fm 0) 0 from (if_pos c1 : pu_mt (σ 7) T (pu_fm 0) 0 = 0).symm)) rfl
  · skip
    refine am_g 2 20 [some (.ref 20), some (.ref 6), some (.int 0)] [.int 0, .ref 20] (hG σ sr ln Lc μ) rfl ?_
    refine am_call (y := 73) (vs := [.ref 20, .int 0]) (rest := []) (v := (some (.int (σ 7 0)))) (h1 := (hG σ sr ln Lc μ)) rfl rfl rfl (sp_X9_byteAt_lo (d + 3) hT hT20 0 (nI_lt_of (Int32.not_le.mp c1) hT20 (by decide))) ?_
    refine am_g 2 25 [some (.ref 20), some (.ref 6), some (.int 0)] [.int 0, .ref 6, .int (σ 7 0)] (hG σ sr ln Lc μ) rfl ?_
    refine am_call (y := 213) (vs := [.ref 6, .int 0]) (rest := [.int (σ 7 0)]) (v := (some (.int 120))) (h1 := (hG σ sr ln Lc μ)) rfl rfl rfl (sp_J0_charAt_5068e_6_0 d _) ?_
    cases e2 : pu_su 120 (σ 7 0) with
    | false =>
      refine am_call (y := 75) (vs := [.int (σ 7 0), .int 120]) (rest := []) (v := (some (.int 0))) (h1 := (hG σ sr ln Lc μ)) rfl rfl rfl (sp_X9_suits_120 (d + 2) _ _ e2) ?_
      refine am_g 2 41 [some (.ref 20), some (.ref 6), some (.int 0)] [.int 0] (hG σ sr ln Lc μ) rfl ?_
      exact am_ret2 rfl rfl rfl (congrArg (fun z => some (Value.int (nI z))) (show 0 = pu_mt (σ 7) T (pu_fm 0) 0 from ((if_neg c1).trans ((congrArg (fun b => bif b then _ else _) e2).trans (rfl)) : pu_mt (σ 7) T (pu_fm 0) 0 = 0).symm)) rfl
    | true =>
      refine am_call (y := 75) (vs := [.int (σ 7 0), .int 120]) (rest := []) (v := (some (.int 1))) (h1 := (hG σ sr ln Lc μ)) rfl rfl rfl (sp_X9_suits_120 (d + 2) _ _ e2) ?_
      refine am_g 5 4 [some (.ref 20), some (.ref 6), some (.int 1)] [.ref 6, .int 1] (hG σ sr ln Lc μ) rfl ?_
      refine am_call (y := 212) (vs := [.ref 6]) (rest := [.int 1]) (v := (some (.int 3))) (h1 := (hG σ sr ln Lc μ)) rfl rfl rfl (sp_J0_length_8abf5_6 (d + 2) _) ?_
      refine am_g 4 15 [some (.ref 20), some (.ref 6), some (.int 1)] [.int (σ 8 0), .int 1] (hG σ sr ln Lc μ) rfl ?_
      rw [show (σ 8 0) = (nI T) from hT]
      refine am_g 1 (if (nI T) ≤ 1 then 40 else 18) [some (.ref 20), some (.ref 6), some (.int 1)] [] (hG σ sr ln Lc μ) rfl (am_brR (fun c3 => ?_) (fun c3 => ?_))
      · skip
        refine am_g 1 41 [some (.ref 20), some (.ref 6), some (.int 1)] [.int 1] (hG σ sr ln Lc μ) rfl ?_
        exact am_ret2 rfl rfl rfl (congrArg (fun z => some (Value.int (nI z))) (show 1 = pu_mt (σ 7) T (pu_fm 0) 0 from ((if_neg c1).trans ((congrArg (fun b => bif b then _ else _) e2).trans (if_pos c3)) : pu_mt (σ 7) T (pu_fm 0) 0 = 1).symm)) rfl
      · skip
        refine am_g 2 20 [some (.ref 20), some (.ref 6), some (.int 1)] [.int 1, .ref 20] (hG σ sr ln Lc μ) rfl ?_
        refine am_call (y := 73) (vs := [.ref 20, .int 1]) (rest := []) (v := (some (.int (σ 7 1)))) (h1 := (hG σ sr ln Lc μ)) rfl rfl rfl (sp_X9_byteAt_lo (d + 3) hT hT20 1 (nI_lt_of (Int32.not_le.mp c3) hT20 (by decide))) ?_
        refine am_g 2 25 [some (.ref 20), some (.ref 6), some (.int 1)] [.int 1, .ref 6, .int (σ 7 1)] (hG σ sr ln Lc μ) rfl ?_
        refine am_call (y := 213) (vs := [.ref 6, .int 1]) (rest := [.int (σ 7 1)]) (v := (some (.int 61))) (h1 := (hG σ sr ln Lc μ)) rfl rfl rfl (sp_J0_charAt_5068e_6_1 d _) ?_
        cases e4 : pu_su 61 (σ 7 1) with
        | false =>
          refine am_call (y := 75) (vs := [.int (σ 7 1), .int 61]) (rest := []) (v := (some (.int 0))) (h1 := (hG σ sr ln Lc μ)) rfl rfl rfl (sp_X9_suits_61 (d + 2) _ _ e4) ?_
          refine am_g 2 41 [some (.ref 20), some (.ref 6), some (.int 1)] [.int 1] (hG σ sr ln Lc μ) rfl ?_
          exact am_ret2 rfl rfl rfl (congrArg (fun z => some (Value.int (nI z))) (show 1 = pu_mt (σ 7) T (pu_fm 0) 0 from ((if_neg c1).trans ((congrArg (fun b => bif b then _ else _) e2).trans ((if_neg c3).trans ((congrArg (fun b => bif b then _ else _) e4).trans (rfl)))) : pu_mt (σ 7) T (pu_fm 0) 0 = 1).symm)) rfl
        | true =>
          refine am_call (y := 75) (vs := [.int (σ 7 1), .int 61]) (rest := []) (v := (some (.int 1))) (h1 := (hG σ sr ln Lc μ)) rfl rfl rfl (sp_X9_suits_61 (d + 2) _ _ e4) ?_
          refine am_g 5 4 [some (.ref 20), some (.ref 6), some (.int 2)] [.ref 6, .int 2] (hG σ sr ln Lc μ) rfl ?_
          refine am_call (y := 212) (vs := [.ref 6]) (rest := [.int 2]) (v := (some (.int 3))) (h1 := (hG σ sr ln Lc μ)) rfl rfl rfl (sp_J0_length_8abf5_6 (d + 2) _) ?_
          refine am_g 4 15 [some (.ref 20), some (.ref 6), some (.int 2)] [.int (σ 8 0), .int 2] (hG σ sr ln Lc μ) rfl ?_
          rw [show (σ 8 0) = (nI T) from hT]
          refine am_g 1 (if (nI T) ≤ 2 then 40 else 18) [some (.ref 20), some (.ref 6), some (.int 2)] [] (hG σ sr ln Lc μ) rfl (am_brR (fun c5 => ?_) (fun c5 => ?_))
          · skip
            refine am_g 1 41 [some (.ref 20), some (.ref 6), some (.int 2)] [.int 2] (hG σ sr ln Lc μ) rfl ?_
            exact am_ret2 rfl rfl rfl (congrArg (fun z => some (Value.int (nI z))) (show 2 = pu_mt (σ 7) T (pu_fm 0) 0 from ((if_neg c1).trans ((congrArg (fun b => bif b then _ else _) e2).trans ((if_neg c3).trans ((congrArg (fun b => bif b then _ else _) e4).trans (if_pos c5)))) : pu_mt (σ 7) T (pu_fm 0) 0 = 2).symm)) rfl
          · skip
            refine am_g 2 20 [some (.ref 20), some (.ref 6), some (.int 2)] [.int 2, .ref 20] (hG σ sr ln Lc μ) rfl ?_
            refine am_call (y := 73) (vs := [.ref 20, .int 2]) (rest := []) (v := (some (.int (σ 7 2)))) (h1 := (hG σ sr ln Lc μ)) rfl rfl rfl (sp_X9_byteAt_lo (d + 3) hT hT20 2 (nI_lt_of (Int32.not_le.mp c5) hT20 (by decide))) ?_
            refine am_g 2 25 [some (.ref 20), some (.ref 6), some (.int 2)] [.int 2, .ref 6, .int (σ 7 2)] (hG σ sr ln Lc μ) rfl ?_
            refine am_call (y := 213) (vs := [.ref 6, .int 2]) (rest := [.int (σ 7 2)]) (v := (some (.int 121))) (h1 := (hG σ sr ln Lc μ)) rfl rfl rfl (sp_J0_charAt_5068e_6_2 d _) ?_
            cases e6 : pu_su 121 (σ 7 2) with
            | false =>
              refine am_call (y := 75) (vs := [.int (σ 7 2), .int 121]) (rest := []) (v := (some (.int 0))) (h1 := (hG σ sr ln Lc μ)) rfl rfl rfl (sp_X9_suits_121 (d + 2) _ _ e6) ?_
              refine am_g 2 41 [some (.ref 20), some (.ref 6), some (.int 2)] [.int 2] (hG σ sr ln Lc μ) rfl ?_
              exact am_ret2 rfl rfl rfl (congrArg (fun z => some (Value.int (nI z))) (show 2 = pu_mt (σ 7) T (pu_fm 0) 0 from ((if_neg c1).trans ((congrArg (fun b => bif b then _ else _) e2).trans ((if_neg c3).trans ((congrArg (fun b => bif b then _ else _) e4).trans ((if_neg c5).trans ((congrArg (fun b => bif b then _ else _) e6).trans (rfl)))))) : pu_mt (σ 7) T (pu_fm 0) 0 = 2).symm)) rfl
            | true =>
              refine am_call (y := 75) (vs := [.int (σ 7 2), .int 121]) (rest := []) (v := (some (.int 1))) (h1 := (hG σ sr ln Lc μ)) rfl rfl rfl (sp_X9_suits_121 (d + 2) _ _ e6) ?_
              refine am_g 5 4 [some (.ref 20), some (.ref 6), some (.int 3)] [.ref 6, .int 3] (hG σ sr ln Lc μ) rfl ?_
              refine am_call (y := 212) (vs := [.ref 6]) (rest := [.int 3]) (v := (some (.int 3))) (h1 := (hG σ sr ln Lc μ)) rfl rfl rfl (sp_J0_length_8abf5_6 (d + 2) _) ?_
              refine am_g 2 41 [some (.ref 20), some (.ref 6), some (.int 3)] [.int 3] (hG σ sr ln Lc μ) rfl ?_
              exact am_ret2 rfl rfl rfl (congrArg (fun z => some (Value.int (nI z))) (show 3 = pu_mt (σ 7) T (pu_fm 0) 0 from ((if_neg c1).trans ((congrArg (fun b => bif b then _ else _) e2).trans ((if_neg c3).trans ((congrArg (fun b => bif b then _ else _) e4).trans ((if_neg c5).trans ((congrArg (fun b => bif b then _ else _) e6).trans (rfl)))))) : pu_mt (σ 7) T (pu_fm 0) 0 = 3).symm)) rfl
end TQ
