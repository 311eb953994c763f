/-! the class: sort, fault, letters of the tape; sorts under sorts -/
section TS
variable {xs : Nat → Int32} {LL : Nat} {σ μ : Nat → Nat → Int32} {sr : Nat → Nat} {ln : Nat → Nat → Int32} {Lc : Nat}
theorem sp_X9_formOf_0 (d : Nat) (h : am_H) : am_X xs LL (d + 1) 74 [.int 0] h (some (.ref 6)) h := by
  refine am_XR (d := d + 0) (C := cd_X9_formOf) (L := [some (.int 0)]) rfl rfl rfl rfl ?_
  refine am_g 3 53 [some (.int 0)] [.ref 6] h rfl ?_
  exact am_ret2 rfl rfl rfl rfl rfl
theorem sp_X9_formOf_1 (d : Nat) (h : am_H) : am_X xs LL (d + 1) 74 [.int 1] h (some (.ref 1)) h := by
  refine am_XR (d := d + 0) (C := cd_X9_formOf) (L := [some (.int 1)]) rfl rfl rfl rfl ?_
  refine am_g 3 38 [some (.int 1)] [.ref 1] h rfl ?_
  exact am_ret2 rfl rfl rfl rfl rfl
theorem sp_X9_formOf_2 (d : Nat) (h : am_H) : am_X xs LL (d + 1) 74 [.int 2] h (some (.ref 2)) h := by
  refine am_XR (d := d + 0) (C := cd_X9_formOf) (L := [some (.int 2)]) rfl rfl rfl rfl ?_
  refine am_g 3 41 [some (.int 2)] [.ref 2] h rfl ?_
  exact am_ret2 rfl rfl rfl rfl rfl
theorem sp_X9_formOf_3 (d : Nat) (h : am_H) : am_X xs LL (d + 1) 74 [.int 3] h (some (.ref 3)) h := by
  refine am_XR (d := d + 0) (C := cd_X9_formOf) (L := [some (.int 3)]) rfl rfl rfl rfl ?_
  refine am_g 3 44 [some (.int 3)] [.ref 3] h rfl ?_
  exact am_ret2 rfl rfl rfl rfl rfl
theorem sp_X9_formOf_4 (d : Nat) (h : am_H) : am_X xs LL (d + 1) 74 [.int 4] h (some (.ref 4)) h := by
  refine am_XR (d := d + 0) (C := cd_X9_formOf) (L := [some (.int 4)]) rfl rfl rfl rfl ?_
  refine am_g 3 47 [some (.int 4)] [.ref 4] h rfl ?_
  exact am_ret2 rfl rfl rfl rfl rfl
theorem sp_X9_formOf_5 (d : Nat) (h : am_H) : am_X xs LL (d + 1) 74 [.int 5] h (some (.ref 5)) h := by
  refine am_XR (d := d + 0) (C := cd_X9_formOf) (L := [some (.int 5)]) rfl rfl rfl rfl ?_
  refine am_g 3 50 [some (.int 5)] [.ref 5] h rfl ?_
  exact am_ret2 rfl rfl rfl rfl rfl
theorem sp_X9_sortTold (d : Nat) {T : Nat} (hT : σ 8 0 = nI T) (hT20 : T ≤ 20) : am_X xs LL (d + 6) 77 [.ref 20] (hG σ sr ln Lc μ) (some (.int (pu_sort (σ 7) T))) (hG σ sr ln Lc μ) := by
  refine am_XR (d := d + 5) (C := cd_X9_sortTold) (L := [some (.ref 20), none, none]) rfl rfl rfl rfl ?_
  refine am_g 6 9 [some (.ref 20), some (.int 0), none] [.int 0] (hG σ sr ln Lc μ) rfl ?_
  refine am_call (y := 74) (vs := [.int 0]) (rest := []) (v := (some (.ref 6))) (h1 := (hG σ sr ln Lc μ)) rfl rfl rfl (sp_X9_formOf_0 (d + 4) _) ?_
  refine am_g 3 17 [some (.ref 20), some (.int 0), some (.ref 6)] [.int (σ 8 0)] (hG σ sr ln Lc μ) rfl ?_
  rw [show (σ 8 0) = (nI T) from hT]
  refine am_g 1 18 [some (.ref 20), some (.int 0), some (.ref 6)] [.ref 6, .int (nI T)] (hG σ sr ln Lc μ) rfl ?_
  refine am_call (y := 212) (vs := [.ref 6]) (rest := [.int (nI T)]) (v := (some (.int 3))) (h1 := (hG σ sr ln Lc μ)) rfl rfl rfl (sp_J0_length_8abf5_6 (d + 3) _) ?_
  refine am_g 1 (if (nI T) = 3 then 24 else 38) [some (.ref 20), some (.int 0), some (.ref 6)] [] (hG σ sr ln Lc μ) rfl (am_brR (fun c1 => ?_) (fun c1 => ?_))
  · skip
    refine am_g 2 26 [some (.ref 20), some (.int 0), some (.ref 6)] [.ref 6, .ref 20] (hG σ sr ln Lc μ) rfl ?_
    refine am_call (y := 76) (vs := [.ref 20, .ref 6]) (rest := []) (v := (some (.int (nI (pu_mt (σ 7) T (pu_fm 0) 0))))) (h1 := (hG σ sr ln Lc μ)) rfl rfl rfl (sp_X9_matched_0 (σ := σ) (μ := μ) d hT hT20) ?_
    refine am_g 2 33 [some (.ref 20), some (.int 0), some (.ref 6)] [.int (σ 8 0), .int (nI (pu_mt (σ 7) T (pu_fm 0) 0))] (hG σ sr ln Lc μ) rfl ?_
    rw [show (σ 8 0) = (nI T) from hT]
    refine am_g 1 (if (nI (pu_mt (σ 7) T (pu_fm 0) 0)) = (nI T) then 36 else 38) [some (.ref 20), some (.int 0), some (.ref 6)] [] (hG σ sr ln Lc μ) rfl (am_brR (fun c2 => ?_) (fun c2 => ?_))
    · skip
      refine am_g 1 37 [some (.ref 20), some (.int 0), some (.ref 6)] [.int 0] (hG σ sr ln Lc μ) rfl ?_
      exact am_ret2 rfl rfl rfl (congrArg (fun z => some (Value.int z)) (show 0 = pu_sort (σ 7) T from ((if_pos c1).trans (if_pos c2) : pu_sort (σ 7) T = 0).symm)) rfl
    · skip
      refine am_g 6 9 [some (.ref 20), some (.int 1), some (.ref 6)] [.int 1] (hG σ sr ln Lc μ) rfl ?_
      refine am_call (y := 74) (vs := [.int 1]) (rest := []) (v := (some (.ref 1))) (h1 := (hG σ sr ln Lc μ)) rfl rfl rfl (sp_X9_formOf_1 (d + 4) _) ?_
      refine am_g 3 17 [some (.ref 20), some (.int 1), some (.ref 1)] [.int (σ 8 0)] (hG σ sr ln Lc μ) rfl ?_
      rw [show (σ 8 0) = (nI T) from hT]
      refine am_g 1 18 [some (.ref 20), some (.int 1), some (.ref 1)] [.ref 1, .int (nI T)] (hG σ sr ln Lc μ) rfl ?_
      refine am_call (y := 212) (vs := [.ref 1]) (rest := [.int (nI T)]) (v := (some (.int 5))) (h1 := (hG σ sr ln Lc μ)) rfl rfl rfl (sp_J0_length_8abf5_1 (d + 3) _) ?_
      refine am_g 1 (if (nI T) = 5 then 24 else 38) [some (.ref 20), some (.int 1), some (.ref 1)] [] (hG σ sr ln Lc μ) rfl (am_brR (fun c3 => ?_) (fun c3 => ?_))
      · skip
        refine am_g 2 26 [some (.ref 20), some (.int 1), some (.ref 1)] [.ref 1, .ref 20] (hG σ sr ln Lc μ) rfl ?_
        refine am_call (y := 76) (vs := [.ref 20, .ref 1]) (rest := []) (v := (some (.int (nI (pu_mt (σ 7) T (pu_fm 1) 0))))) (h1 := (hG σ sr ln Lc μ)) rfl rfl rfl (sp_X9_matched_1 (σ := σ) (μ := μ) d hT hT20) ?_
        refine am_g 2 33 [some (.ref 20), some (.int 1), some (.ref 1)] [.int (σ 8 0), .int (nI (pu_mt (σ 7) T (pu_fm 1) 0))] (hG σ sr ln Lc μ) rfl ?_
        rw [show (σ 8 0) = (nI T) from hT]
        refine am_g 1 (if (nI (pu_mt (σ 7) T (pu_fm 1) 0)) = (nI T) then 36 else 38) [some (.ref 20), some (.int 1), some (.ref 1)] [] (hG σ sr ln Lc μ) rfl (am_brR (fun c4 => ?_) (fun c4 => ?_))
        · skip
          refine am_g 1 37 [some (.ref 20), some (.int 1), some (.ref 1)] [.int 1] (hG σ sr ln Lc μ) rfl ?_
          exact am_ret2 rfl rfl rfl (congrArg (fun z => some (Value.int z)) (show 1 = pu_sort (σ 7) T from (((if_pos c1).trans (if_neg c2)).trans ((if_pos c3).trans (if_pos c4)) : pu_sort (σ 7) T = 1).symm)) rfl
        · skip
          refine am_g 6 9 [some (.ref 20), some (.int 2), some (.ref 1)] [.int 2] (hG σ sr ln Lc μ) rfl ?_
          refine am_call (y := 74) (vs := [.int 2]) (rest := []) (v := (some (.ref 2))) (h1 := (hG σ sr ln Lc μ)) rfl rfl rfl (sp_X9_formOf_2 (d + 4) _) ?_
          refine am_g 3 17 [some (.ref 20), some (.int 2), some (.ref 2)] [.int (σ 8 0)] (hG σ sr ln Lc μ) rfl ?_
          rw [show (σ 8 0) = (nI T) from hT]
          refine am_g 1 18 [some (.ref 20), some (.int 2), some (.ref 2)] [.ref 2, .int (nI T)] (hG σ sr ln Lc μ) rfl ?_
          refine am_call (y := 212) (vs := [.ref 2]) (rest := [.int (nI T)]) (v := (some (.int 5))) (h1 := (hG σ sr ln Lc μ)) rfl rfl rfl (sp_J0_length_8abf5_2 (d + 3) _) ?_
          refine am_g 1 (if (nI T) = 5 then 24 else 38) [some (.ref 20), some (.int 2), some (.ref 2)] [] (hG σ sr ln Lc μ) rfl ?_
          rw [if_pos (show (nI T) = 5 from c3)]
          refine am_g 2 26 [some (.ref 20), some (.int 2), some (.ref 2)] [.ref 2, .ref 20] (hG σ sr ln Lc μ) rfl ?_
          refine am_call (y := 76) (vs := [.ref 20, .ref 2]) (rest := []) (v := (some (.int (nI (pu_mt (σ 7) T (pu_fm 2) 0))))) (h1 := (hG σ sr ln Lc μ)) rfl rfl rfl (sp_X9_matched_2 (σ := σ) (μ := μ) d hT hT20) ?_
          refine am_g 2 33 [some (.ref 20), some (.int 2), some (.ref 2)] [.int (σ 8 0), .int (nI (pu_mt (σ 7) T (pu_fm 2) 0))] (hG σ sr ln Lc μ) rfl ?_
          rw [show (σ 8 0) = (nI T) from hT]
          refine am_g 1 (if (nI (pu_mt (σ 7) T (pu_fm 2) 0)) = (nI T) then 36 else 38) [some (.ref 20), some (.int 2), some (.ref 2)] [] (hG σ sr ln Lc μ) rfl (am_brR (fun c5 => ?_) (fun c5 => ?_))
          · skip
            refine am_g 1 37 [some (.ref 20), some (.int 2), some (.ref 2)] [.int 2] (hG σ sr ln Lc μ) rfl ?_
            exact am_ret2 rfl rfl rfl (congrArg (fun z => some (Value.int z)) (show 2 = pu_sort (σ 7) T from (((if_pos c1).trans (if_neg c2)).trans (((if_pos c3).trans (if_neg c4)).trans ((if_pos c3).trans (if_pos c5))) : pu_sort (σ 7) T = 2).symm)) rfl
          · skip
            refine am_g 6 9 [some (.ref 20), some (.int 3), some (.ref 2)] [.int 3] (hG σ sr ln Lc μ) rfl ?_
            refine am_call (y := 74) (vs := [.int 3]) (rest := []) (v := (some (.ref 3))) (h1 := (hG σ sr ln Lc μ)) rfl rfl rfl (sp_X9_formOf_3 (d + 4) _) ?_
            refine am_g 3 17 [some (.ref 20), some (.int 3), some (.ref 3)] [.int (σ 8 0)] (hG σ sr ln Lc μ) rfl ?_
            rw [show (σ 8 0) = (nI T) from hT]
            refine am_g 1 18 [some (.ref 20), some (.int 3), some (.ref 3)] [.ref 3, .int (nI T)] (hG σ sr ln Lc μ) rfl ?_
            refine am_call (y := 212) (vs := [.ref 3]) (rest := [.int (nI T)]) (v := (some (.int 5))) (h1 := (hG σ sr ln Lc μ)) rfl rfl rfl (sp_J0_length_8abf5_3 (d + 3) _) ?_
            refine am_g 1 (if (nI T) = 5 then 24 else 38) [some (.ref 20), some (.int 3), some (.ref 3)] [] (hG σ sr ln Lc μ) rfl ?_
            rw [if_pos (show (nI T) = 5 from c3)]
            refine am_g 2 26 [some (.ref 20), some (.int 3), some (.ref 3)] [.ref 3, .ref 20] (hG σ sr ln Lc μ) rfl ?_
            refine am_call (y := 76) (vs := [.ref 20, .ref 3]) (rest := []) (v := (some (.int (nI (pu_mt (σ 7) T (pu_fm 3) 0))))) (h1 := (hG σ sr ln Lc μ)) rfl rfl rfl (sp_X9_matched_3 (σ := σ) (μ := μ) d hT hT20) ?_
            refine am_g 2 33 [some (.ref 20), some (.int 3), some (.ref 3)] [.int (σ 8 0), .int (nI (pu_mt (σ 7) T (pu_fm 3) 0))] (hG σ sr ln Lc μ) rfl ?_
            rw [show (σ 8 0) = (nI T) from hT]
            refine am_g 1 (if (nI (pu_mt (σ 7) T (pu_fm 3) 0)) = (nI T) then 36 else 38) [some (.ref 20), some (.int 3), some (.ref 3)] [] (hG σ sr ln Lc μ) rfl (am_brR (fun c6 => ?_) (fun c6 => ?_))
            · skip
              refine am_g 1 37 [some (.ref 20), some (.int 3), some (.ref 3)] [.int 3] (hG σ sr ln Lc μ) rfl ?_
              exact am_ret2 rfl rfl rfl (congrArg (fun z => some (Value.int z)) (show 3 = pu_sort (σ 7) T from (((if_pos c1).trans (if_neg c2)).trans (((if_pos c3).trans (if_neg c4)).trans (((if_pos c3).trans (if_neg c5)).trans ((if_pos c3).trans (if_pos c6)))) : pu_sort (σ 7) T = 3).symm)) rfl
            · skip
              refine am_g 6 9 [some (.ref 20), some (.int 4), some (.ref 3)] [.int 4] (hG σ sr ln Lc μ) rfl ?_
              refine am_call (y := 74) (vs := [.int 4]) (rest := []) (v := (some (.ref 4))) (h1 := (hG σ sr ln Lc μ)) rfl rfl rfl (sp_X9_formOf_4 (d + 4) _) ?_
              refine am_g 3 17 [some (.ref 20), some (.int 4), some (.ref 4)] [.int (σ 8 0)] (hG σ sr ln Lc μ) rfl ?_
              rw [show (σ 8 0) = (nI T) from hT]
              refine am_g 1 18 [some (.ref 20), some (.int 4), some (.ref 4)] [.ref 4, .int (nI T)] (hG σ sr ln Lc μ) rfl ?_
              refine am_call (y := 212) (vs := [.ref 4]) (rest := [.int (nI T)]) (v := (some (.int 8))) (h1 := (hG σ sr ln Lc μ)) rfl rfl rfl (sp_J0_length_8abf5_4 (d + 3) _) ?_
              refine am_g 1 (if (nI T) = 8 then 24 else 38) [some (.ref 20), some (.int 4), some (.ref 4)] [] (hG σ sr ln Lc μ) rfl (am_brR (fun c7 => ?_) (fun c7 => ?_))
              · skip
                refine am_g 2 26 [some (.ref 20), some (.int 4), some (.ref 4)] [.ref 4, .ref 20] (hG σ sr ln Lc μ) rfl ?_
                refine am_call (y := 76) (vs := [.ref 20, .ref 4]) (rest := []) (v := (some (.int (nI (pu_mt (σ 7) T (pu_fm 4) 0))))) (h1 := (hG σ sr ln Lc μ)) rfl rfl rfl (sp_X9_matched_4 (σ := σ) (μ := μ) d hT hT20) ?_
                refine am_g 2 33 [some (.ref 20), some (.int 4), some (.ref 4)] [.int (σ 8 0), .int (nI (pu_mt (σ 7) T (pu_fm 4) 0))] (hG σ sr ln Lc μ) rfl ?_
                rw [show (σ 8 0) = (nI T) from hT]
                refine am_g 1 (if (nI (pu_mt (σ 7) T (pu_fm 4) 0)) = (nI T) then 36 else 38) [some (.ref 20), some (.int 4), some (.ref 4)] [] (hG σ sr ln Lc μ) rfl (am_brR (fun c8 => ?_) (fun c8 => ?_))
                · skip
                  refine am_g 1 37 [some (.ref 20), some (.int 4), some (.ref 4)] [.int 4] (hG σ sr ln Lc μ) rfl ?_
                  exact am_ret2 rfl rfl rfl (congrArg (fun z => some (Value.int z)) (show 4 = pu_sort (σ 7) T from (((if_pos c1).trans (if_neg c2)).trans (((if_pos c3).trans (if_neg c4)).trans (((if_pos c3).trans (if_neg c5)).trans (((if_pos c3).trans (if_neg c6)).trans ((if_pos c7).trans (if_pos c8))))) : pu_sort (σ 7) T = 4).symm)) rfl
                · skip
                  refine am_g 6 9 [some (.ref 20), some (.int 5), some (.ref 4)] [.int 5] (hG σ sr ln Lc μ) rfl ?_
                  refine am_call (y := 74) (vs := [.int 5]) (rest := []) (v := (some (.ref 5))) (h1 := (hG σ sr ln Lc μ)) rfl rfl rfl (sp_X9_formOf_5 (d + 4) _) ?_
                  refine am_g 3 17 [some (.ref 20), some (.int 5), some (.ref 5)] [.int (σ 8 0)] (hG σ sr ln Lc μ) rfl ?_
                  rw [show (σ 8 0) = (nI T) from hT]
                  refine am_g 1 18 [some (.ref 20), some (.int 5), some (.ref 5)] [.ref 5, .int (nI T)] (hG σ sr ln Lc μ) rfl ?_
                  refine am_call (y := 212) (vs := [.ref 5]) (rest := [.int (nI T)]) (v := (some (.int 4))) (h1 := (hG σ sr ln Lc μ)) rfl rfl rfl (sp_J0_length_8abf5_5 (d + 3) _) ?_
                  refine am_g 1 (if (nI T) = 4 then 24 else 38) [some (.ref 20), some (.int 5), some (.ref 5)] [] (hG σ sr ln Lc μ) rfl (am_brR (fun c9 => ?_) (fun c9 => ?_))
                  · skip
                    refine am_g 2 26 [some (.ref 20), some (.int 5), some (.ref 5)] [.ref 5, .ref 20] (hG σ sr ln Lc μ) rfl ?_
                    refine am_call (y := 76) (vs := [.ref 20, .ref 5]) (rest := []) (v := (some (.int (nI (pu_mt (σ 7) T (pu_fm 5) 0))))) (h1 := (hG σ sr ln Lc μ)) rfl rfl rfl (sp_X9_matched_5 (σ := σ) (μ := μ) d hT hT20) ?_
                    refine am_g 2 33 [some (.ref 20), some (.int 5), some (.ref 5)] [.int (σ 8 0), .int (nI (pu_mt (σ 7) T (pu_fm 5) 0))] (hG σ sr ln Lc μ) rfl ?_
                    rw [show (σ 8 0) = (nI T) from hT]
                    refine am_g 1 (if (nI (pu_mt (σ 7) T (pu_fm 5) 0)) = (nI T) then 36 else 38) [some (.ref 20), some (.int 5), some (.ref 5)] [] (hG σ sr ln Lc μ) rfl (am_brR (fun c10 => ?_) (fun c10 => ?_))
                    · skip
                      refine am_g 1 37 [some (.ref 20), some (.int 5), some (.ref 5)] [.int 5] (hG σ sr ln Lc μ) rfl ?_
                      exact am_ret2 rfl rfl rfl (congrArg (fun z => some (Value.int z)) (show 5 = pu_sort (σ 7) T from (((if_pos c1).trans (if_neg c2)).trans (((if_pos c3).trans (if_neg c4)).trans (((if_pos c3).trans (if_neg c5)).trans (((if_pos c3).trans (if_neg c6)).trans (((if_pos c7).trans (if_neg c8)).trans ((if_pos c9).trans (if_pos c10)))))) : pu_sort (σ 7) T = 5).symm)) rfl
                    · skip
                      refine am_g 6 45 [some (.ref 20), some (.int 6), some (.ref 5)] [.int (-1)] (hG σ sr ln Lc μ) rfl ?_
                      exact am_ret2 rfl rfl rfl (congrArg (fun z => some (Value.int z)) (show (-1) = pu_sort (σ 7) T from (((if_pos c1).trans (if_neg c2)).trans (((if_pos c3).trans (if_neg c4)).trans (((if_pos c3).trans (if_neg c5)).trans (((if_pos c3).trans (if_neg c6)).trans (((if_pos c7).trans (if_neg c8)).trans ((if_pos c9).trans (if_neg c10)))))) : pu_sort (σ 7) T = (-1)).symm)) rfl
                  · skip
                    refine am_g 6 45 [some (.ref 20), some (.int 6), some (.ref 5)] [.int (-1)] (hG σ sr ln Lc μ) rfl ?_
                    exact am_ret2 rfl rfl rfl (congrArg (fun z => some (Value.int z)) (show (-1) = pu_sort (σ 7) T from (((if_pos c1).trans (if_neg c2)).trans (((if_pos c3).trans (if_neg c4)).trans (((if_pos c3).trans (if_neg c5)).trans (((if_pos c3).trans (if_neg c6)).trans (((if_pos c7).trans (if_neg c8)).trans (if_neg c9))))) : pu_sort (σ 7) T = (-1)).symm)) rfl
              · skip
                refine am_g 6 9 [some (.ref 20), some (.int 5), some (.ref 4)] [.int 5] (hG σ sr ln Lc μ) rfl ?_
                refine am_call (y := 74) (vs := [.int 5]) (rest := []) (v := (some (.ref 5))) (h1 := (hG σ sr ln Lc μ)) rfl rfl rfl (sp_X9_formOf_5 (d + 4) _) ?_
                refine am_g 3 17 [some (.ref 20), some (.int 5), some (.ref 5)] [.int (σ 8 0)] (hG σ sr ln Lc μ) rfl ?_
                rw [show (σ 8 0) = (nI T) from hT]
                refine am_g 1 18 [some (.ref 20), some (.int 5), some (.ref 5)] [.ref 5, .int (nI T)] (hG σ sr ln Lc μ) rfl ?_
                refine am_call (y := 212) (vs := [.ref 5]) (rest := [.int (nI T)]) (v := (some (.int 4))) (h1 := (hG σ sr ln Lc μ)) rfl rfl rfl (sp_J0_length_8abf5_5 (d + 3) _) ?_
                refine am_g 1 (if (nI T) = 4 then 24 else 38) [some (.ref 20), some (.int 5), some (.ref 5)] [] (hG σ sr ln Lc μ) rfl (am_brR (fun c11 => ?_) (fun c11 => ?_))
                · skip
                  refine am_g 2 26 [some (.ref 20), some (.int 5), some (.ref 5)] [.ref 5, .ref 20] (hG σ sr ln Lc μ) rfl ?_
                  refine am_call (y := 76) (vs := [.ref 20, .ref 5]) (rest := []) (v := (some (.int (nI (pu_mt (σ 7) T (pu_fm 5) 0))))) (h1 := (hG σ sr ln Lc μ)) rfl rfl rfl (sp_X9_matched_5 (σ := σ) (μ := μ) d hT hT20) ?_
                  refine am_g 2 33 [some (.ref 20), some (.int 5), some (.ref 5)] [.int (σ 8 0), .int (nI (pu_mt (σ 7) T (pu_fm 5) 0))] (hG σ sr ln Lc μ) rfl ?_
                  rw [show (σ 8 0) = (nI T) from hT]
                  refine am_g 1 (if (nI (pu_mt (σ 7) T (pu_fm 5) 0)) = (nI T) then 36 else 38) [some (.ref 20), some (.int 5), some (.ref 5)] [] (hG σ sr ln Lc μ) rfl (am_brR (fun c12 => ?_) (fun c12 => ?_))
                  · skip
                    refine am_g 1 37 [some (.ref 20), some (.int 5), some (.ref 5)] [.int 5] (hG σ sr ln Lc μ) rfl ?_
                    exact am_ret2 rfl rfl rfl (congrArg (fun z => some (Value.int z)) (show 5 = pu_sort (σ 7) T from (((if_pos c1).trans (if_neg c2)).trans (((if_pos c3).trans (if_neg c4)).trans (((if_pos c3).trans (if_neg c5)).trans (((if_pos c3).trans (if_neg c6)).trans ((if_neg c7).trans ((if_pos c11).trans (if_pos c12)))))) : pu_sort (σ 7) T = 5).symm)) rfl
                  · skip
                    refine am_g 6 45 [some (.ref 20), some (.int 6), some (.ref 5)] [.int (-1)] (hG σ sr ln Lc μ) rfl ?_
                    exact am_ret2 rfl rfl rfl (congrArg (fun z => some (Value.int z)) (show (-1) = pu_sort (σ 7) T from (((if_pos c1).trans (if_neg c2)).trans (((if_pos c3).trans (if_neg c4)).trans (((if_pos c3).trans (if_neg c5)).trans (((if_pos c3).trans (if_neg c6)).trans ((if_neg c7).trans ((if_pos c11).trans (if_neg c12)))))) : pu_sort (σ 7) T = (-1)).symm)) rfl
                · skip
                  refine am_g 6 45 [some (.ref 20), some (.int 6), some (.ref 5)] [.int (-1)] (hG σ sr ln Lc μ) rfl ?_
                  exact am_ret2 rfl rfl rfl (congrArg (fun z => some (Value.int z)) (show (-1) = pu_sort (σ 7) T from (((if_pos c1).trans (if_neg c2)).trans (((if_pos c3).trans (if_neg c4)).trans (((if_pos c3).trans (if_neg c5)).trans (((if_pos c3).trans (if_neg c6)).trans ((if_neg c7).trans (if_neg c11))))) : pu_sort (σ 7) T = (-1)).symm)) rfl
      · skip
        refine am_g 6 9 [some (.ref 20), some (.int 2), some (.ref 1)] [.int 2] (hG σ sr ln Lc μ) rfl ?_
        refine am_call (y := 74) (vs := [.int 2]) (rest := []) (v := (some (.ref 2))) (h1 := (hG σ sr ln Lc μ)) rfl rfl rfl (sp_X9_formOf_2 (d + 4) _) ?_
        refine am_g 3 17 [some (.ref 20), some (.int 2), some (.ref 2)] [.int (σ 8 0)] (hG σ sr ln Lc μ) rfl ?_
        rw [show (σ 8 0) = (nI T) from hT]
        refine am_g 1 18 [some (.ref 20), some (.int 2), some (.ref 2)] [.ref 2, .int (nI T)] (hG σ sr ln Lc μ) rfl ?_
        refine am_call (y := 212) (vs := [.ref 2]) (rest := [.int (nI T)]) (v := (some (.int 5))) (h1 := (hG σ sr ln Lc μ)) rfl rfl rfl (sp_J0_length_8abf5_2 (d + 3) _) ?_
        refine am_g 1 (if (nI T) = 5 then 24 else 38) [some (.ref 20), some (.int 2), some (.ref 2)] [] (hG σ sr ln Lc μ) rfl ?_
        rw [if_neg (show ¬ (nI T) = 5 from c3)]
        refine am_g 6 9 [some (.ref 20), some (.int 3), some (.ref 2)] [.int 3] (hG σ sr ln Lc μ) rfl ?_
        refine am_call (y := 74) (vs := [.int 3]) (rest := []) (v := (some (.ref 3))) (h1 := (hG σ sr ln Lc μ)) rfl rfl rfl (sp_X9_formOf_3 (d + 4) _) ?_
        refine am_g 3 17 [some (.ref 20), some (.int 3), some (.ref 3)] [.int (σ 8 0)] (hG σ sr ln Lc μ) rfl ?_
        rw [show (σ 8 0) = (nI T) from hT]
        refine am_g 1 18 [some (.ref 20), some (.int 3), some (.ref 3)] [.ref 3, .int (nI T)] (hG σ sr ln Lc μ) rfl ?_
        refine am_call (y := 212) (vs := [.ref 3]) (rest := [.int (nI T)]) (v := (some (.int 5))) (h1 := (hG σ sr ln Lc μ)) rfl rfl rfl (sp_J0_length_8abf5_3 (d + 3) _) ?_
        refine am_g 1 (if (nI T) = 5 then 24 else 38) [some (.ref 20), some (.int 3), some (.ref 3)] [] (hG σ sr ln Lc μ) rfl ?_
        rw [if_neg (show ¬ (nI T) = 5 from c3)]
        refine am_g 6 9 [some (.ref 20), some (.int 4), some (.ref 3)] [.int 4] (hG σ sr ln Lc μ) rfl ?_
        refine am_call (y := 74) (vs := [.int 4]) (rest := []) (v := (some (.ref 4))) (h1 := (hG σ sr ln Lc μ)) rfl rfl rfl (sp_X9_formOf_4 (d + 4) _) ?_
        refine am_g 3 17 [some (.ref 20), some (.int 4), some (.ref 4)] [.int (σ 8 0)] (hG σ sr ln Lc μ) rfl ?_
        rw [show (σ 8 0) = (nI T) from hT]
        refine am_g 1 18 [some (.ref 20), some (.int 4), some (.ref 4)] [.ref 4, .int (nI T)] (hG σ sr ln Lc μ) rfl ?_
        refine am_call (y := 212) (vs := [.ref 4]) (rest := [.int (nI T)]) (v := (some (.int 8))) (h1 := (hG σ sr ln Lc μ)) rfl rfl rfl (sp_J0_length_8abf5_4 (d + 3) _) ?_
        refine am_g 1 (if (nI T) = 8 then 24 else 38) [some (.ref 20), some (.int 4), some (.ref 4)] [] (hG σ sr ln Lc μ) rfl (am_brR (fun c13 => ?_) (fun c13 => ?_))
        · skip
          refine am_g 2 26 [some (.ref 20), some (.int 4), some (.ref 4)] [.ref 4, .ref 20] (hG σ sr ln Lc μ) rfl ?_
          refine am_call (y := 76) (vs := [.ref 20, .ref 4]) (rest := []) (v := (some (.int (nI (pu_mt (σ 7) T (pu_fm 4) 0))))) (h1 := (hG σ sr ln Lc μ)) rfl rfl rfl (sp_X9_matched_4 (σ := σ) (μ := μ) d hT hT20) ?_
          refine am_g 2 33 [some (.ref 20), some (.int 4), some (.ref 4)] [.int (σ 8 0), .int (nI (pu_mt (σ 7) T (pu_fm 4) 0))] (hG σ sr ln Lc μ) rfl ?_
          rw [show (σ 8 0) = (nI T) from hT]
          refine am_g 1 (if (nI (pu_mt (σ 7) T (pu_fm 4) 0)) = (nI T) then 36 else 38) [some (.ref 20), some (.int 4), some (.ref 4)] [] (hG σ sr ln Lc μ) rfl (am_brR (fun c14 => ?_) (fun c14 => ?_))
          · skip
            refine am_g 1 37 [some (.ref 20), some (.int 4), some (.ref 4)] [.int 4] (hG σ sr ln Lc μ) rfl ?_
            exact am_ret2 rfl rfl rfl (congrArg (fun z => some (Value.int z)) (show 4 = pu_sort (σ 7) T from (((if_pos c1).trans (if_neg c2)).trans ((if_neg c3).trans ((if_neg c3).trans ((if_neg c3).trans ((if_pos c13).trans (if_pos c14))))) : pu_sort (σ 7) T = 4).symm)) rfl
          · skip
            refine am_g 6 9 [some (.ref 20), some (.int 5), some (.ref 4)] [.int 5] (hG σ sr ln Lc μ) rfl ?_
            refine am_call (y := 74) (vs := [.int 5]) (rest := []) (v := (some (.ref 5))) (h1 := (hG σ sr ln Lc μ)) rfl rfl rfl (sp_X9_formOf_5 (d + 4) _) ?_
            refine am_g 3 17 [some (.ref 20), some (.int 5), some (.ref 5)] [.int (σ 8 0)] (hG σ sr ln Lc μ) rfl ?_
            rw [show (σ 8 0) = (nI T) from hT]
            refine am_g 1 18 [some (.ref 20), some (.int 5), some (.ref 5)] [.ref 5, .int (nI T)] (hG σ sr ln Lc μ) rfl ?_
            refine am_call (y := 212) (vs := [.ref 5]) (rest := [.int (nI T)]) (v := (some (.int 4))) (h1 := (hG σ sr ln Lc μ)) rfl rfl rfl (sp_J0_length_8abf5_5 (d + 3) _) ?_
            refine am_g 1 (if (nI T) = 4 then 24 else 38) [some (.ref 20), some (.int 5), some (.ref 5)] [] (hG σ sr ln Lc μ) rfl (am_brR (fun c15 => ?_) (fun c15 => ?_))
            · skip
              refine am_g 2 26 [some (.ref 20), some (.int 5), some (.ref 5)] [.ref 5, .ref 20] (hG σ sr ln Lc μ) rfl ?_
              refine am_call (y := 76) (vs := [.ref 20, .ref 5]) (rest := []) (v := (some (.int (nI (pu_mt (σ 7) T (pu_fm 5) 0))))) (h1 := (hG σ sr ln Lc μ)) rfl rfl rfl (sp_X9_matched_5 (σ := σ) (μ := μ) d hT hT20) ?_
              refine am_g 2 33 [some (.ref 20), some (.int 5), some (.ref 5)] [.int (σ 8 0), .int (nI (pu_mt (σ 7) T (pu_fm 5) 0))] (hG σ sr ln Lc μ) rfl ?_
              rw [show (σ 8 0) = (nI T) from hT]
              refine am_g 1 (if (nI (pu_mt (σ 7) T (pu_fm 5) 0)) = (nI T) then 36 else 38) [some (.ref 20), some (.int 5), some (.ref 5)] [] (hG σ sr ln Lc μ) rfl (am_brR (fun c16 => ?_) (fun c16 => ?_))
              · skip
                refine am_g 1 37 [some (.ref 20), some (.int 5), some (.ref 5)] [.int 5] (hG σ sr ln Lc μ) rfl ?_
                exact am_ret2 rfl rfl rfl (congrArg (fun z => some (Value.int z)) (show 5 = pu_sort (σ 7) T from (((if_pos c1).trans (if_neg c2)).trans ((if_neg c3).trans ((if_neg c3).trans ((if_neg c3).trans (((if_pos c13).trans (if_neg c14)).trans ((if_pos c15).trans (if_pos c16)))))) : pu_sort (σ 7) T = 5).symm)) rfl
              · skip
                refine am_g 6 45 [some (.ref 20), some (.int 6), some (.ref 5)] [.int (-1)] (hG σ sr ln Lc μ) rfl ?_
                exact am_ret2 rfl rfl rfl (congrArg (fun z => some (Value.int z)) (show (-1) = pu_sort (σ 7) T from (((if_pos c1).trans (if_neg c2)).trans ((if_neg c3).trans ((if_neg c3).trans ((if_neg c3).trans (((if_pos c13).trans (if_neg c14)).trans ((if_pos c15).trans (if_neg c16)))))) : pu_sort (σ 7) T = (-1)).symm)) rfl
            · skip
              refine am_g 6 45 [some (.ref 20), some (.int 6), some (.ref 5)] [.int (-1)] (hG σ sr ln Lc μ) rfl ?_
              exact am_ret2 rfl rfl rfl (congrArg (fun z => some (Value.int z)) (show (-1) = pu_sort (σ 7) T from (((if_pos c1).trans (if_neg c2)).trans ((if_neg c3).trans ((if_neg c3).trans ((if_neg c3).trans (((if_pos c13).trans (if_neg c14)).trans (if_neg c15))))) : pu_sort (σ 7) T = (-1)).symm)) rfl
        · skip
          refine am_g 6 9 [some (.ref 20), some (.int 5), some (.ref 4)] [.int 5] (hG σ sr ln Lc μ) rfl ?_
          refine am_call (y := 74) (vs := [.int 5]) (rest := []) (v := (some (.ref 5))) (h1 := (hG σ sr ln Lc μ)) rfl rfl rfl (sp_X9_formOf_5 (d + 4) _) ?_
          refine am_g 3 17 [some (.ref 20), some (.int 5), some (.ref 5)] [.int (σ 8 0)] (hG σ sr ln Lc μ) rfl ?_
          rw [show (σ 8 0) = (nI T) from hT]
          refine am_g 1 18 [some (.ref 20), some (.int 5), some (.ref 5)] [.ref 5, .int (nI T)] (hG σ sr ln Lc μ) rfl ?_
          refine am_call (y := 212) (vs := [.ref 5]) (rest := [.int (nI T)]) (v := (some (.int 4))) (h1 := (hG σ sr ln Lc μ)) rfl rfl rfl (sp_J0_length_8abf5_5 (d + 3) _) ?_
          refine am_g 1 (if (nI T) = 4 then 24 else 38) [some (.ref 20), some (.int 5), some (.ref 5)] [] (hG σ sr ln Lc μ) rfl (am_brR (fun c17 => ?_) (fun c17 => ?_))
          · skip
            refine am_g 2 26 [some (.ref 20), some (.int 5), some (.ref 5)] [.ref 5, .ref 20] (hG σ sr ln Lc μ) rfl ?_
            refine am_call (y := 76) (vs := [.ref 20, .ref 5]) (rest := []) (v := (some (.int (nI (pu_mt (σ 7) T (pu_fm 5) 0))))) (h1 := (hG σ sr ln Lc μ)) rfl rfl rfl (sp_X9_matched_5 (σ := σ) (μ := μ) d hT hT20) ?_
            refine am_g 2 33 [some (.ref 20), some (.int 5), some (.ref 5)] [.int (σ 8 0), .int (nI (pu_mt (σ 7) T (pu_fm 5) 0))] (hG σ sr ln Lc μ) rfl ?_
            rw [show (σ 8 0) = (nI T) from hT]
            refine am_g 1 (if (nI (pu_mt (σ 7) T (pu_fm 5) 0)) = (nI T) then 36 else 38) [some (.ref 20), some (.int 5), some (.ref 5)] [] (hG σ sr ln Lc μ) rfl (am_brR (fun c18 => ?_) (fun c18 => ?_))
            · skip
              refine am_g 1 37 [some (.ref 20), some (.int 5), some (.ref 5)] [.int 5] (hG σ sr ln Lc μ) rfl ?_
              exact am_ret2 rfl rfl rfl (congrArg (fun z => some (Value.int z)) (show 5 = pu_sort (σ 7) T from (((if_pos c1).trans (if_neg c2)).trans ((if_neg c3).trans ((if_neg c3).trans ((if_neg c3).trans ((if_neg c13).trans ((if_pos c17).trans (if_pos c18)))))) : pu_sort (σ 7) T = 5).symm)) rfl
            · skip
              refine am_g 6 45 [some (.ref 20), some (.int 6), some (.ref 5)] [.int (-1)] (hG σ sr ln Lc μ) rfl ?_
              exact am_ret2 rfl rfl rfl (congrArg (fun z => some (Value.int z)) (show (-1) = pu_sort (σ 7) T from (((if_pos c1).trans (if_neg c2)).trans ((if_neg c3).trans ((if_neg c3).trans ((if_neg c3).trans ((if_neg c13).trans ((if_pos c17).trans (if_neg c18)))))) : pu_sort (σ 7) T = (-1)).symm)) rfl
          · skip
            refine am_g 6 45 [some (.ref 20), some (.int 6), some (.ref 5)] [.int (-1)] (hG σ sr ln Lc μ) rfl ?_
            exact am_ret2 rfl rfl rfl (congrArg (fun z => some (Value.int z)) (show (-1) = pu_sort (σ 7) T from (((if_pos c1).trans (if_neg c2)).trans ((if_neg c3).trans ((if_neg c3).trans ((if_neg c3).trans ((if_neg c13).trans (if_neg c17))))) : pu_sort (σ 7) T = (-1)).symm)) rfl
  · skip
    refine am_g 6 9 [some (.ref 20), some (.int 1), some (.ref 6)] [.int 1] (hG σ sr ln Lc μ) rfl ?_
    refine am_call (y := 74) (vs := [.int 1]) (rest := []) (v := (some (.ref 1))) (h1 := (hG σ sr ln Lc μ)) rfl rfl rfl (sp_X9_formOf_1 (d + 4) _) ?_
    refine am_g 3 17 [some (.ref 20), some (.int 1), some (.ref 1)] [.int (σ 8 0)] (hG σ sr ln Lc μ) rfl ?_
    rw [show (σ 8 0) = (nI T) from hT]
    refine am_g 1 18 [some (.ref 20), some (.int 1), some (.ref 1)] [.ref 1, .int (nI T)] (hG σ sr ln Lc μ) rfl ?_
    refine am_call (y := 212) (vs := [.ref 1]) (rest := [.int (nI T)]) (v := (some (.int 5))) (h1 := (hG σ sr ln Lc μ)) rfl rfl rfl (sp_J0_length_8abf5_1 (d + 3) _) ?_
    refine am_g 1 (if (nI T) = 5 then 24 else 38) [some (.ref 20), some (.int 1), some (.ref 1)] [] (hG σ sr ln Lc μ) rfl (am_brR (fun c19 => ?_) (fun c19 => ?_))
    · skip
      refine am_g 2 26 [some (.ref 20), some (.int 1), some (.ref 1)] [.ref 1, .ref 20] (hG σ sr ln Lc μ) rfl ?_
      refine am_call (y := 76) (vs := [.ref 20, .ref 1]) (rest := []) (v := (some (.int (nI (pu_mt (σ 7) T (pu_fm 1) 0))))) (h1 := (hG σ sr ln Lc μ)) rfl rfl rfl (sp_X9_matched_1 (σ := σ) (μ := μ) d hT hT20) ?_
      refine am_g 2 33 [some (.ref 20), some (.int 1), some (.ref 1)] [.int (σ 8 0), .int (nI (pu_mt (σ 7) T (pu_fm 1) 0))] (hG σ sr ln Lc μ) rfl ?_
      rw [show (σ 8 0) = (nI T) from hT]
      refine am_g 1 (if (nI (pu_mt (σ 7) T (pu_fm 1) 0)) = (nI T) then 36 else 38) [some (.ref 20), some (.int 1), some (.ref 1)] [] (hG σ sr ln Lc μ) rfl (am_brR (fun c20 => ?_) (fun c20 => ?_))
      · skip
        refine am_g 1 37 [some (.ref 20), some (.int 1), some (.ref 1)] [.int 1] (hG σ sr ln Lc μ) rfl ?_
        exact am_ret2 rfl rfl rfl (congrArg (fun z => some (Value.int z)) (show 1 = pu_sort (σ 7) T from ((if_neg c1).trans ((if_pos c19).trans (if_pos c20)) : pu_sort (σ 7) T = 1).symm)) rfl
      · skip
        refine am_g 6 9 [some (.ref 20), some (.int 2), some (.ref 1)] [.int 2] (hG σ sr ln Lc μ) rfl ?_
        refine am_call (y := 74) (vs := [.int 2]) (rest := []) (v := (some (.ref 2))) (h1 := (hG σ sr ln Lc μ)) rfl rfl rfl (sp_X9_formOf_2 (d + 4) _) ?_
        refine am_g 3 17 [some (.ref 20), some (.int 2), some (.ref 2)] [.int (σ 8 0)] (hG σ sr ln Lc μ) rfl ?_
        rw [show (σ 8 0) = (nI T) from hT]
        refine am_g 1 18 [some (.ref 20), some (.int 2), some (.ref 2)] [.ref 2, .int (nI T)] (hG σ sr ln Lc μ) rfl ?_
        refine am_call (y := 212) (vs := [.ref 2]) (rest := [.int (nI T)]) (v := (some (.int 5))) (h1 := (hG σ sr ln Lc μ)) rfl rfl rfl (sp_J0_length_8abf5_2 (d + 3) _) ?_
        refine am_g 1 (if (nI T) = 5 then 24 else 38) [some (.ref 20), some (.int 2), some (.ref 2)] [] (hG σ sr ln Lc μ) rfl ?_
        rw [if_pos (show (nI T) = 5 from c19)]
        refine am_g 2 26 [some (.ref 20), some (.int 2), some (.ref 2)] [.ref 2, .ref 20] (hG σ sr ln Lc μ) rfl ?_
        refine am_call (y := 76) (vs := [.ref 20, .ref 2]) (rest := []) (v := (some (.int (nI (pu_mt (σ 7) T (pu_fm 2) 0))))) (h1 := (hG σ sr ln Lc μ)) rfl rfl rfl (sp_X9_matched_2 (σ := σ) (μ := μ) d hT hT20) ?_
        refine am_g 2 33 [some (.ref 20), some (.int 2), some (.ref 2)] [.int (σ 8 0), .int (nI (pu_mt (σ 7) T (pu_fm 2) 0))] (hG σ sr ln Lc μ) rfl ?_
        rw [show (σ 8 0) = (nI T) from hT]
        refine am_g 1 (if (nI (pu_mt (σ 7) T (pu_fm 2) 0)) = (nI T) then 36 else 38) [some (.ref 20), some (.int 2), some (.ref 2)] [] (hG σ sr ln Lc μ) rfl (am_brR (fun c21 => ?_) (fun c21 => ?_))
        · skip
          refine am_g 1 37 [some (.ref 20), some (.int 2), some (.ref 2)] [.int 2] (hG σ sr ln Lc μ) rfl ?_
          exact am_ret2 rfl rfl rfl (congrArg (fun z => some (Value.int z)) (show 2 = pu_sort (σ 7) T from ((if_neg c1).trans (((if_pos c19).trans (if_neg c20)).trans ((if_pos c19).trans (if_pos c21))) : pu_sort (σ 7) T = 2).symm)) rfl
        · skip
          refine am_g 6 9 [some (.ref 20), some (.int 3), some (.ref 2)] [.int 3] (hG σ sr ln Lc μ) rfl ?_
          refine am_call (y := 74) (vs := [.int 3]) (rest := []) (v := (some (.ref 3))) (h1 := (hG σ sr ln Lc μ)) rfl rfl rfl (sp_X9_formOf_3 (d + 4) _) ?_
          refine am_g 3 17 [some (.ref 20), some (.int 3), some (.ref 3)] [.int (σ 8 0)] (hG σ sr ln Lc μ) rfl ?_
          rw [show (σ 8 0) = (nI T) from hT]
          refine am_g 1 18 [some (.ref 20), some (.int 3), some (.ref 3)] [.ref 3, .int (nI T)] (hG σ sr ln Lc μ) rfl ?_
          refine am_call (y := 212) (vs := [.ref 3]) (rest := [.int (nI T)]) (v := (some (.int 5))) (h1 := (hG σ sr ln Lc μ)) rfl rfl rfl (sp_J0_length_8abf5_3 (d + 3) _) ?_
          refine am_g 1 (if (nI T) = 5 then 24 else 38) [some (.ref 20), some (.int 3), some (.ref 3)] [] (hG σ sr ln Lc μ) rfl ?_
          rw [if_pos (show (nI T) = 5 from c19)]
          refine am_g 2 26 [some (.ref 20), some (.int 3), some (.ref 3)] [.ref 3, .ref 20] (hG σ sr ln Lc μ) rfl ?_
          refine am_call (y := 76) (vs := [.ref 20, .ref 3]) (rest := []) (v := (some (.int (nI (pu_mt (σ 7) T (pu_fm 3) 0))))) (h1 := (hG σ sr ln Lc μ)) rfl rfl rfl (sp_X9_matched_3 (σ := σ) (μ := μ) d hT hT20) ?_
          refine am_g 2 33 [some (.ref 20), some (.int 3), some (.ref 3)] [.int (σ 8 0), .int (nI (pu_mt (σ 7) T (pu_fm 3) 0))] (hG σ sr ln Lc μ) rfl ?_
          rw [show (σ 8 0) = (nI T) from hT]
          refine am_g 1 (if (nI (pu_mt (σ 7) T (pu_fm 3) 0)) = (nI T) then 36 else 38) [some (.ref 20), some (.int 3), some (.ref 3)] [] (hG σ sr ln Lc μ) rfl (am_brR (fun c22 => ?_) (fun c22 => ?_))
          · skip
            refine am_g 1 37 [some (.ref 20), some (.int 3), some (.ref 3)] [.int 3] (hG σ sr ln Lc μ) rfl ?_
            exact am_ret2 rfl rfl rfl (congrArg (fun z => some (Value.int z)) (show 3 = pu_sort (σ 7) T from ((if_neg c1).trans (((if_pos c19).trans (if_neg c20)).trans (((if_pos c19).trans (if_neg c21)).trans ((if_pos c19).trans (if_pos c22)))) : pu_sort (σ 7) T = 3).symm)) rfl
          · skip
            refine am_g 6 9 [some (.ref 20), some (.int 4), some (.ref 3)] [.int 4] (hG σ sr ln Lc μ) rfl ?_
            refine am_call (y := 74) (vs := [.int 4]) (rest := []) (v := (some (.ref 4))) (h1 := (hG σ sr ln Lc μ)) rfl rfl rfl (sp_X9_formOf_4 (d + 4) _) ?_
            refine am_g 3 17 [some (.ref 20), some (.int 4), some (.ref 4)] [.int (σ 8 0)] (hG σ sr ln Lc μ) rfl ?_
            rw [show (σ 8 0) = (nI T) from hT]
            refine am_g 1 18 [some (.ref 20), some (.int 4), some (.ref 4)] [.ref 4, .int (nI T)] (hG σ sr ln Lc μ) rfl ?_
            refine am_call (y := 212) (vs := [.ref 4]) (rest := [.int (nI T)]) (v := (some (.int 8))) (h1 := (hG σ sr ln Lc μ)) rfl rfl rfl (sp_J0_length_8abf5_4 (d + 3) _) ?_
            refine am_g 1 (if (nI T) = 8 then 24 else 38) [some (.ref 20), some (.int 4), some (.ref 4)] [] (hG σ sr ln Lc μ) rfl (am_brR (fun c23 => ?_) (fun c23 => ?_))
            · skip
              refine am_g 2 26 [some (.ref 20), some (.int 4), some (.ref 4)] [.ref 4, .ref 20] (hG σ sr ln Lc μ) rfl ?_
              refine am_call (y := 76) (vs := [.ref 20, .ref 4]) (rest := []) (v := (some (.int (nI (pu_mt (σ 7) T (pu_fm 4) 0))))) (h1 := (hG σ sr ln Lc μ)) rfl rfl rfl (sp_X9_matched_4 (σ := σ) (μ := μ) d hT hT20) ?_
              refine am_g 2 33 [some (.ref 20), some (.int 4), some (.ref 4)] [.int (σ 8 0), .int (nI (pu_mt (σ 7) T (pu_fm 4) 0))] (hG σ sr ln Lc μ) rfl ?_
              rw [show (σ 8 0) = (nI T) from hT]
              refine am_g 1 (if (nI (pu_mt (σ 7) T (pu_fm 4) 0)) = (nI T) then 36 else 38) [some (.ref 20), some (.int 4), some (.ref 4)] [] (hG σ sr ln Lc μ) rfl (am_brR (fun c24 => ?_) (fun c24 => ?_))
              · skip
                refine am_g 1 37 [some (.ref 20), some (.int 4), some (.ref 4)] [.int 4] (hG σ sr ln Lc μ) rfl ?_
                exact am_ret2 rfl rfl rfl (congrArg (fun z => some (Value.int z)) (show 4 = pu_sort (σ 7) T from ((if_neg c1).trans (((if_pos c19).trans (if_neg c20)).trans (((if_pos c19).trans (if_neg c21)).trans (((if_pos c19).trans (if_neg c22)).trans ((if_pos c23).trans (if_pos c24))))) : pu_sort (σ 7) T = 4).symm)) rfl
              · skip
                refine am_g 6 9 [some (.ref 20), some (.int 5), some (.ref 4)] [.int 5] (hG σ sr ln Lc μ) rfl ?_
                refine am_call (y := 74) (vs := [.int 5]) (rest := []) (v := (some (.ref 5))) (h1 := (hG σ sr ln Lc μ)) rfl rfl rfl (sp_X9_formOf_5 (d + 4) _) ?_
                refine am_g 3 17 [some (.ref 20), some (.int 5), some (.ref 5)] [.int (σ 8 0)] (hG σ sr ln Lc μ) rfl ?_
                rw [show (σ 8 0) = (nI T) from hT]
                refine am_g 1 18 [some (.ref 20), some (.int 5), some (.ref 5)] [.ref 5, .int (nI T)] (hG σ sr ln Lc μ) rfl ?_
                refine am_call (y := 212) (vs := [.ref 5]) (rest := [.int (nI T)]) (v := (some (.int 4))) (h1 := (hG σ sr ln Lc μ)) rfl rfl rfl (sp_J0_length_8abf5_5 (d + 3) _) ?_
                refine am_g 1 (if (nI T) = 4 then 24 else 38) [some (.ref 20), some (.int 5), some (.ref 5)] [] (hG σ sr ln Lc μ) rfl (am_brR (fun c25 => ?_) (fun c25 => ?_))
                · skip
                  refine am_g 2 26 [some (.ref 20), some (.int 5), some (.ref 5)] [.ref 5, .ref 20] (hG σ sr ln Lc μ) rfl ?_
                  refine am_call (y := 76) (vs := [.ref 20, .ref 5]) (rest := []) (v := (some (.int (nI (pu_mt (σ 7) T (pu_fm 5) 0))))) (h1 := (hG σ sr ln Lc μ)) rfl rfl rfl (sp_X9_matched_5 (σ := σ) (μ := μ) d hT hT20) ?_
                  refine am_g 2 33 [some (.ref 20), some (.int 5), some (.ref 5)] [.int (σ 8 0), .int (nI (pu_mt (σ 7) T (pu_fm 5) 0))] (hG σ sr ln Lc μ) rfl ?_
                  rw [show (σ 8 0) = (nI T) from hT]
                  refine am_g 1 (if (nI (pu_mt (σ 7) T (pu_fm 5) 0)) = (nI T) then 36 else 38) [some (.ref 20), some (.int 5), some (.ref 5)] [] (hG σ sr ln Lc μ) rfl (am_brR (fun c26 => ?_) (fun c26 => ?_))
                  · skip
                    refine am_g 1 37 [some (.ref 20), some (.int 5), some (.ref 5)] [.int 5] (hG σ sr ln Lc μ) rfl ?_
                    exact am_ret2 rfl rfl rfl (congrArg (fun z => some (Value.int z)) (show 5 = pu_sort (σ 7) T from ((if_neg c1).trans (((if_pos c19).trans (if_neg c20)).trans (((if_pos c19).trans (if_neg c21)).trans (((if_pos c19).trans (if_neg c22)).trans (((if_pos c23).trans (if_neg c24)).trans ((if_pos c25).trans (if_pos c26)))))) : pu_sort (σ 7) T = 5).symm)) rfl
                  · skip
                    refine am_g 6 45 [some (.ref 20), some (.int 6), some (.ref 5)] [.int (-1)] (hG σ sr ln Lc μ) rfl ?_
                    exact am_ret2 rfl rfl rfl (congrArg (fun z => some (Value.int z)) (show (-1) = pu_sort (σ 7) T from ((if_neg c1).trans (((if_pos c19).trans (if_neg c20)).trans (((if_pos c19).trans (if_neg c21)).trans (((if_pos c19).trans (if_neg c22)).trans (((if_pos c23).trans (if_neg c24)).trans ((if_pos c25).trans (if_neg c26)))))) : pu_sort (σ 7) T = (-1)).symm)) rfl
                · skip
                  refine am_g 6 45 [some (.ref 20), some (.int 6), some (.ref 5)] [.int (-1)] (hG σ sr ln Lc μ) rfl ?_
                  exact am_ret2 rfl rfl rfl (congrArg (fun z => some (Value.int z)) (show (-1) = pu_sort (σ 7) T from ((if_neg c1).trans (((if_pos c19).trans (if_neg c20)).trans (((if_pos c19).trans (if_neg c21)).trans (((if_pos c19).trans (if_neg c22)).trans (((if_pos c23).trans (if_neg c24)).trans (if_neg c25))))) : pu_sort (σ 7) T = (-1)).symm)) rfl
            · skip
              refine am_g 6 9 [some (.ref 20), some (.int 5), some (.ref 4)] [.int 5] (hG σ sr ln Lc μ) rfl ?_
              refine am_call (y := 74) (vs := [.int 5]) (rest := []) (v := (some (.ref 5))) (h1 := (hG σ sr ln Lc μ)) rfl rfl rfl (sp_X9_formOf_5 (d + 4) _) ?_
              refine am_g 3 17 [some (.ref 20), some (.int 5), some (.ref 5)] [.int (σ 8 0)] (hG σ sr ln Lc μ) rfl ?_
              rw [show (σ 8 0) = (nI T) from hT]
              refine am_g 1 18 [some (.ref 20), some (.int 5), some (.ref 5)] [.ref 5, .int (nI T)] (hG σ sr ln Lc μ) rfl ?_
              refine am_call (y := 212) (vs := [.ref 5]) (rest := [.int (nI T)]) (v := (some (.int 4))) (h1 := (hG σ sr ln Lc μ)) rfl rfl rfl (sp_J0_length_8abf5_5 (d + 3) _) ?_
              refine am_g 1 (if (nI T) = 4 then 24 else 38) [some (.ref 20), some (.int 5), some (.ref 5)] [] (hG σ sr ln Lc μ) rfl (am_brR (fun c27 => ?_) (fun c27 => ?_))
              · skip
                refine am_g 2 26 [some (.ref 20), some (.int 5), some (.ref 5)] [.ref 5, .ref 20] (hG σ sr ln Lc μ) rfl ?_
                refine am_call (y := 76) (vs := [.ref 20, .ref 5]) (rest := []) (v := (some (.int (nI (pu_mt (σ 7) T (pu_fm 5) 0))))) (h1 := (hG σ sr ln Lc μ)) rfl rfl rfl (sp_X9_matched_5 (σ := σ) (μ := μ) d hT hT20) ?_
                refine am_g 2 33 [some (.ref 20), some (.int 5), some (.ref 5)] [.int (σ 8 0), .int (nI (pu_mt (σ 7) T (pu_fm 5) 0))] (hG σ sr ln Lc μ) rfl ?_
                rw [show (σ 8 0) = (nI T) from hT]
                refine am_g 1 (if (nI (pu_mt (σ 7) T (pu_fm 5) 0)) = (nI T) then 36 else 38) [some (.ref 20), some (.int 5), some (.ref 5)] [] (hG σ sr ln Lc μ) rfl (am_brR (fun c28 => ?_) (fun c28 => ?_))
                · skip
                  refine am_g 1 37 [some (.ref 20), some (.int 5), some (.ref 5)] [.int 5] (hG σ sr ln Lc μ) rfl ?_
                  exact am_ret2 rfl rfl rfl (congrArg (fun z => some (Value.int z)) (show 5 = pu_sort (σ 7) T from ((if_neg c1).trans (((if_pos c19).trans (if_neg c20)).trans (((if_pos c19).trans (if_neg c21)).trans (((if_pos c19).trans (if_neg c22)).trans ((if_neg c23).trans ((if_pos c27).trans (if_pos c28)))))) : pu_sort (σ 7) T = 5).symm)) rfl
                · skip
                  refine am_g 6 45 [some (.ref 20), some (.int 6), some (.ref 5)] [.int (-1)] (hG σ sr ln Lc μ) rfl ?_
                  exact am_ret2 rfl rfl rfl (congrArg (fun z => some (Value.int z)) (show (-1) = pu_sort (σ 7) T from ((if_neg c1).trans (((if_pos c19).trans (if_neg c20)).trans (((if_pos c19).trans (if_neg c21)).trans (((if_pos c19).trans (if_neg c22)).trans ((if_neg c23).trans ((if_pos c27).trans (if_neg c28)))))) : pu_sort (σ 7) T = (-1)).symm)) rfl
              · skip
                refine am_g 6 45 [some (.ref 20), some (.int 6), some (.ref 5)] [.int (-1)] (hG σ sr ln Lc μ) rfl ?_
                exact am_ret2 rfl rfl rfl (congrArg (fun z => some (Value.int z)) (show (-1) = pu_sort (σ 7) T from ((if_neg c1).trans (((if_pos c19).trans (if_neg c20)).trans (((if_pos c19).trans (if_neg c21)).trans (((if_pos c19).trans (if_neg c22)).trans ((if_neg c23).trans (if_neg c27))))) : pu_sort (σ 7) T = (-1)).symm)) rfl
    · skip
      refine am_g 6 9 [some (.ref 20), some (.int 2), some (.ref 1)] [.int 2] (hG σ sr ln Lc μ) rfl ?_
      refine am_call (y := 74) (vs := [.int 2]) (rest := []) (v := (some (.ref 2))) (h1 := (hG σ sr ln Lc μ)) rfl rfl rfl (sp_X9_formOf_2 (d + 4) _) ?_
      refine am_g 3 17 [some (.ref 20), some (.int 2), some (.ref 2)] [.int (σ 8 0)] (hG σ sr ln Lc μ) rfl ?_
      rw [show (σ 8 0) = (nI T) from hT]
      refine am_g 1 18 [some (.ref 20), some (.int 2), some (.ref 2)] [.ref 2, .int (nI T)] (hG σ sr ln Lc μ) rfl ?_
      refine am_call (y := 212) (vs := [.ref 2]) (rest := [.int (nI T)]) (v := (some (.int 5))) (h1 := (hG σ sr ln Lc μ)) rfl rfl rfl (sp_J0_length_8abf5_2 (d + 3) _) ?_
      refine am_g 1 (if (nI T) = 5 then 24 else 38) [some (.ref 20), some (.int 2), some (.ref 2)] [] (hG σ sr ln Lc μ) rfl ?_
      rw [if_neg (show ¬ (nI T) = 5 from c19)]
      refine am_g 6 9 [some (.ref 20), some (.int 3), some (.ref 2)] [.int 3] (hG σ sr ln Lc μ) rfl ?_
      refine am_call (y := 74) (vs := [.int 3]) (rest := []) (v := (some (.ref 3))) (h1 := (hG σ sr ln Lc μ)) rfl rfl rfl (sp_X9_formOf_3 (d + 4) _) ?_
      refine am_g 3 17 [some (.ref 20), some (.int 3), some (.ref 3)] [.int (σ 8 0)] (hG σ sr ln Lc μ) rfl ?_
      rw [show (σ 8 0) = (nI T) from hT]
      refine am_g 1 18 [some (.ref 20), some (.int 3), some (.ref 3)] [.ref 3, .int (nI T)] (hG σ sr ln Lc μ) rfl ?_
      refine am_call (y := 212) (vs := [.ref 3]) (rest := [.int (nI T)]) (v := (some (.int 5))) (h1 := (hG σ sr ln Lc μ)) rfl rfl rfl (sp_J0_length_8abf5_3 (d + 3) _) ?_
      refine am_g 1 (if (nI T) = 5 then 24 else 38) [some (.ref 20), some (.int 3), some (.ref 3)] [] (hG σ sr ln Lc μ) rfl ?_
      rw [if_neg (show ¬ (nI T) = 5 from c19)]
      refine am_g 6 9 [some (.ref 20), some (.int 4), some (.ref 3)] [.int 4] (hG σ sr ln Lc μ) rfl ?_
      refine am_call (y := 74) (vs := [.int 4]) (rest := []) (v := (some (.ref 4))) (h1 := (hG σ sr ln Lc μ)) rfl rfl rfl (sp_X9_formOf_4 (d + 4) _) ?_
      refine am_g 3 17 [some (.ref 20), some (.int 4), some (.ref 4)] [.int (σ 8 0)] (hG σ sr ln Lc μ) rfl ?_
      rw [show (σ 8 0) = (nI T) from hT]
      refine am_g 1 18 [some (.ref 20), some (.int 4), some (.ref 4)] [.ref 4, .int (nI T)] (hG σ sr ln Lc μ) rfl ?_
      refine am_call (y := 212) (vs := [.ref 4]) (rest := [.int (nI T)]) (v := (some (.int 8))) (h1 := (hG σ sr ln Lc μ)) rfl rfl rfl (sp_J0_length_8abf5_4 (d + 3) _) ?_
      refine am_g 1 (if (nI T) = 8 then 24 else 38) [some (.ref 20), some (.int 4), some (.ref 4)] [] (hG σ sr ln Lc μ) rfl (am_brR (fun c29 => ?_) (fun c29 => ?_))
      · skip
        refine am_g 2 26 [some (.ref 20), some (.int 4), some (.ref 4)] [.ref 4, .ref 20] (hG σ sr ln Lc μ) rfl ?_
        refine am_call (y := 76) (vs := [.ref 20, .ref 4]) (rest := []) (v := (some (.int (nI (pu_mt (σ 7) T (pu_fm 4) 0))))) (h1 := (hG σ sr ln Lc μ)) rfl rfl rfl (sp_X9_matched_4 (σ := σ) (μ := μ) d hT hT20) ?_
        refine am_g 2 33 [some (.ref 20), some (.int 4), some (.ref 4)] [.int (σ 8 0), .int (nI (pu_mt (σ 7) T (pu_fm 4) 0))] (hG σ sr ln Lc μ) rfl ?_
        rw [show (σ 8 0) = (nI T) from hT]
        refine am_g 1 (if (nI (pu_mt (σ 7) T (pu_fm 4) 0)) = (nI T) then 36 else 38) [some (.ref 20), some (.int 4), some (.ref 4)] [] (hG σ sr ln Lc μ) rfl (am_brR (fun c30 => ?_) (fun c30 => ?_))
        · skip
          refine am_g 1 37 [some (.ref 20), some (.int 4), some (.ref 4)] [.int 4] (hG σ sr ln Lc μ) rfl ?_
          exact am_ret2 rfl rfl rfl (congrArg (fun z => some (Value.int z)) (show 4 = pu_sort (σ 7) T from ((if_neg c1).trans ((if_neg c19).trans ((if_neg c19).trans ((if_neg c19).trans ((if_pos c29).trans (if_pos c30))))) : pu_sort (σ 7) T = 4).symm)) rfl
        · skip
          refine am_g 6 9 [some (.ref 20), some (.int 5), some (.ref 4)] [.int 5] (hG σ sr ln Lc μ) rfl ?_
          refine am_call (y := 74) (vs := [.int 5]) (rest := []) (v := (some (.ref 5))) (h1 := (hG σ sr ln Lc μ)) rfl rfl rfl (sp_X9_formOf_5 (d + 4) _) ?_
          refine am_g 3 17 [some (.ref 20), some (.int 5), some (.ref 5)] [.int (σ 8 0)] (hG σ sr ln Lc μ) rfl ?_
          rw [show (σ 8 0) = (nI T) from hT]
          refine am_g 1 18 [some (.ref 20), some (.int 5), some (.ref 5)] [.ref 5, .int (nI T)] (hG σ sr ln Lc μ) rfl ?_
          refine am_call (y := 212) (vs := [.ref 5]) (rest := [.int (nI T)]) (v := (some (.int 4))) (h1 := (hG σ sr ln Lc μ)) rfl rfl rfl (sp_J0_length_8abf5_5 (d + 3) _) ?_
          refine am_g 1 (if (nI T) = 4 then 24 else 38) [some (.ref 20), some (.int 5), some (.ref 5)] [] (hG σ sr ln Lc μ) rfl (am_brR (fun c31 => ?_) (fun c31 => ?_))
          · skip
            refine am_g 2 26 [some (.ref 20), some (.int 5), some (.ref 5)] [.ref 5, .ref 20] (hG σ sr ln Lc μ) rfl ?_
            refine am_call (y := 76) (vs := [.ref 20, .ref 5]) (rest := []) (v := (some (.int (nI (pu_mt (σ 7) T (pu_fm 5) 0))))) (h1 := (hG σ sr ln Lc μ)) rfl rfl rfl (sp_X9_matched_5 (σ := σ) (μ := μ) d hT hT20) ?_
            refine am_g 2 33 [some (.ref 20), some (.int 5), some (.ref 5)] [.int (σ 8 0), .int (nI (pu_mt (σ 7) T (pu_fm 5) 0))] (hG σ sr ln Lc μ) rfl ?_
            rw [show (σ 8 0) = (nI T) from hT]
            refine am_g 1 (if (nI (pu_mt (σ 7) T (pu_fm 5) 0)) = (nI T) then 36 else 38) [some (.ref 20), some (.int 5), some (.ref 5)] [] (hG σ sr ln Lc μ) rfl (am_brR (fun c32 => ?_) (fun c32 => ?_))
            · skip
              refine am_g 1 37 [some (.ref 20), some (.int 5), some (.ref 5)] [.int 5] (hG σ sr ln Lc μ) rfl ?_
              exact am_ret2 rfl rfl rfl (congrArg (fun z => some (Value.int z)) (show 5 = pu_sort (σ 7) T from ((if_neg c1).trans ((if_neg c19).trans ((if_neg c19).trans ((if_neg c19).trans (((if_pos c29).trans (if_neg c30)).trans ((if_pos c31).trans (if_pos c32)))))) : pu_sort (σ 7) T = 5).symm)) rfl
            · skip
              refine am_g 6 45 [some (.ref 20), some (.int 6), some (.ref 5)] [.int (-1)] (hG σ sr ln Lc μ) rfl ?_
              exact am_ret2 rfl rfl rfl (congrArg (fun z => some (Value.int z)) (show (-1) = pu_sort (σ 7) T from ((if_neg c1).trans ((if_neg c19).trans ((if_neg c19).trans ((if_neg c19).trans (((if_pos c29).trans (if_neg c30)).trans ((if_pos c31).trans (if_neg c32)))))) : pu_sort (σ 7) T = (-1)).symm)) rfl
          · skip
            refine am_g 6 45 [some (.ref 20), some (.int 6), some (.ref 5)] [.int (-1)] (hG σ sr ln Lc μ) rfl ?_
            exact am_ret2 rfl rfl rfl (congrArg (fun z => some (Value.int z)) (show (-1) = pu_sort (σ 7) T from ((if_neg c1).trans ((if_neg c19).trans ((if_neg c19).trans ((if_neg c19).trans (((if_pos c29).trans (if_neg c30)).trans (if_neg c31))))) : pu_sort (σ 7) T = (-1)).symm)) rfl
      · skip
        refine am_g 6 9 [some (.ref 20), some (.int 5), some (.ref 4)] [.int 5] (hG σ sr ln Lc μ) rfl ?_
        refine am_call (y := 74) (vs := [.int 5]) (rest := []) (v := (some (.ref 5))) (h1 := (hG σ sr ln Lc μ)) rfl rfl rfl (sp_X9_formOf_5 (d + 4) _) ?_
        refine am_g 3 17 [some (.ref 20), some (.int 5), some (.ref 5)] [.int (σ 8 0)] (hG σ sr ln Lc μ) rfl ?_
        rw [show (σ 8 0) = (nI T) from hT]
        refine am_g 1 18 [some (.ref 20), some (.int 5), some (.ref 5)] [.ref 5, .int (nI T)] (hG σ sr ln Lc μ) rfl ?_
        refine am_call (y := 212) (vs := [.ref 5]) (rest := [.int (nI T)]) (v := (some (.int 4))) (h1 := (hG σ sr ln Lc μ)) rfl rfl rfl (sp_J0_length_8abf5_5 (d + 3) _) ?_
        refine am_g 1 (if (nI T) = 4 then 24 else 38) [some (.ref 20), some (.int 5), some (.ref 5)] [] (hG σ sr ln Lc μ) rfl (am_brR (fun c33 => ?_) (fun c33 => ?_))
        · skip
          refine am_g 2 26 [some (.ref 20), some (.int 5), some (.ref 5)] [.ref 5, .ref 20] (hG σ sr ln Lc μ) rfl ?_
          refine am_call (y := 76) (vs := [.ref 20, .ref 5]) (rest := []) (v := (some (.int (nI (pu_mt (σ 7) T (pu_fm 5) 0))))) (h1 := (hG σ sr ln Lc μ)) rfl rfl rfl (sp_X9_matched_5 (σ := σ) (μ := μ) d hT hT20) ?_
          refine am_g 2 33 [some (.ref 20), some (.int 5), some (.ref 5)] [.int (σ 8 0), .int (nI (pu_mt (σ 7) T (pu_fm 5) 0))] (hG σ sr ln Lc μ) rfl ?_
          rw [show (σ 8 0) = (nI T) from hT]
          refine am_g 1 (if (nI (pu_mt (σ 7) T (pu_fm 5) 0)) = (nI T) then 36 else 38) [some (.ref 20), some (.int 5), some (.ref 5)] [] (hG σ sr ln Lc μ) rfl (am_brR (fun c34 => ?_) (fun c34 => ?_))
          · skip
            refine am_g 1 37 [some (.ref 20), some (.int 5), some (.ref 5)] [.int 5] (hG σ sr ln Lc μ) rfl ?_
            exact am_ret2 rfl rfl rfl (congrArg (fun z => some (Value.int z)) (show 5 = pu_sort (σ 7) T from ((if_neg c1).trans ((if_neg c19).trans ((if_neg c19).trans ((if_neg c19).trans ((if_neg c29).trans ((if_pos c33).trans (if_pos c34)))))) : pu_sort (σ 7) T = 5).symm)) rfl
          · skip
            refine am_g 6 45 [some (.ref 20), some (.int 6), some (.ref 5)] [.int (-1)] (hG σ sr ln Lc μ) rfl ?_
            exact am_ret2 rfl rfl rfl (congrArg (fun z => some (Value.int z)) (show (-1) = pu_sort (σ 7) T from ((if_neg c1).trans ((if_neg c19).trans ((if_neg c19).trans ((if_neg c19).trans ((if_neg c29).trans ((if_pos c33).trans (if_neg c34)))))) : pu_sort (σ 7) T = (-1)).symm)) rfl
        · skip
          refine am_g 6 45 [some (.ref 20), some (.int 6), some (.ref 5)] [.int (-1)] (hG σ sr ln Lc μ) rfl ?_
          exact am_ret2 rfl rfl rfl (congrArg (fun z => some (Value.int z)) (show (-1) = pu_sort (σ 7) T from ((if_neg c1).trans ((if_neg c19).trans ((if_neg c19).trans ((if_neg c19).trans ((if_neg c29).trans (if_neg c33))))) : pu_sort (σ 7) T = (-1)).symm)) rfl
theorem sp_X9_faultPlace (d : Nat) {T : Nat} (hT : σ 8 0 = nI T) (hT20 : T ≤ 20) : am_X xs LL (d + 6) 78 [.ref 20] (hG σ sr ln Lc μ) (some (.int (nI (pu_flt (σ 7) T)))) (hG σ sr ln Lc μ) := by
  refine am_XR (d := d + 5) (C := cd_X9_faultPlace) (L := [some (.ref 20), none, none]) rfl rfl rfl rfl ?_
  refine am_g 6 7 [some (.ref 20), some (.int 0), some (.int 0)] [.int 6, .int 0] (hG σ sr ln Lc μ) rfl ?_
  refine am_g 4 13 [some (.ref 20), some (.int 0), some (.int 0)] [.int 0, .ref 20, .int 0] (hG σ sr ln Lc μ) rfl ?_
  refine am_call (y := 74) (vs := [.int 0]) (rest := [.ref 20, .int 0]) (v := (some (.ref 6))) (h1 := (hG σ sr ln Lc μ)) rfl rfl rfl (sp_X9_formOf_0 (d + 4) _) ?_
  refine am_call (y := 76) (vs := [.ref 20, .ref 6]) (rest := [.int 0]) (v := (some (.int (nI (pu_mt (σ 7) T (pu_fm 0) 0))))) (h1 := (hG σ sr ln Lc μ)) rfl rfl rfl (sp_X9_matched_0 (σ := σ) (μ := μ) d hT hT20) ?_
  refine am_g 1 22 [some (.ref 20), some (.int 0), some (.int 0)] [.int (if 0 < (nI (pu_mt (σ 7) T (pu_fm 0) 0)) then (nI (pu_mt (σ 7) T (pu_fm 0) 0)) else 0)] (hG σ sr ln Lc μ) rfl ?_
  rw [show (if 0 < (nI (pu_mt (σ 7) T (pu_fm 0) 0)) then (nI (pu_mt (σ 7) T (pu_fm 0) 0)) else 0) = nI (max 0 (pu_mt (σ 7) T (pu_fm 0) 0)) from nI_max (a := 0) (b := (pu_mt (σ 7) T (pu_fm 0) 0)) (by decide) (Nat.lt_of_le_of_lt (pu_mt_le (σ 7) T (pu_fm 0) 0) (by decide))]
  refine am_g 6 10 [some (.ref 20), some (.int (nI (max 0 (pu_mt (σ 7) T (pu_fm 0) 0)))), some (.int 1)] [] (hG σ sr ln Lc μ) rfl ?_
  refine am_g 3 13 [some (.ref 20), some (.int (nI (max 0 (pu_mt (σ 7) T (pu_fm 0) 0)))), some (.int 1)] [.int 1, .ref 20, .int (nI (max 0 (pu_mt (σ 7) T (pu_fm 0) 0)))] (hG σ sr ln Lc μ) rfl ?_
  refine am_call (y := 74) (vs := [.int 1]) (rest := [.ref 20, .int (nI (max 0 (pu_mt (σ 7) T (pu_fm 0) 0)))]) (v := (some (.ref 1))) (h1 := (hG σ sr ln Lc μ)) rfl rfl rfl (sp_X9_formOf_1 (d + 4) _) ?_
  refine am_call (y := 76) (vs := [.ref 20, .ref 1]) (rest := [.int (nI (max 0 (pu_mt (σ 7) T (pu_fm 0) 0)))]) (v := (some (.int (nI (pu_mt (σ 7) T (pu_fm 1) 0))))) (h1 := (hG σ sr ln Lc μ)) rfl rfl rfl (sp_X9_matched_1 (σ := σ) (μ := μ) d hT hT20) ?_
  refine am_g 1 22 [some (.ref 20), some (.int (nI (max 0 (pu_mt (σ 7) T (pu_fm 0) 0)))), some (.int 1)] [.int (if (nI (max 0 (pu_mt (σ 7) T (pu_fm 0) 0))) < (nI (pu_mt (σ 7) T (pu_fm 1) 0)) then (nI (pu_mt (σ 7) T (pu_fm 1) 0)) else (nI (max 0 (pu_mt (σ 7) T (pu_fm 0) 0))))] (hG σ sr ln Lc μ) rfl ?_
  rw [show (if (nI (max 0 (pu_mt (σ 7) T (pu_fm 0) 0))) < (nI (pu_mt (σ 7) T (pu_fm 1) 0)) then (nI (pu_mt (σ 7) T (pu_fm 1) 0)) else (nI (max 0 (pu_mt (σ 7) T (pu_fm 0) 0)))) = nI (max (max 0 (pu_mt (σ 7) T (pu_fm 0) 0)) (pu_mt (σ 7) T (pu_fm 1) 0)) from nI_max (a := (max 0 (pu_mt (σ 7) T (pu_fm 0) 0))) (b := (pu_mt (σ 7) T (pu_fm 1) 0)) (Nat.max_lt.mpr ⟨(by decide), (Nat.lt_of_le_of_lt (pu_mt_le (σ 7) T (pu_fm 0) 0) (by decide))⟩) (Nat.lt_of_le_of_lt (pu_mt_le (σ 7) T (pu_fm 1) 0) (by decide))]
  refine am_g 6 10 [some (.ref 20), some (.int (nI (max (max 0 (pu_mt (σ 7) T (pu_fm 0) 0)) (pu_mt (σ 7) T (pu_fm 1) 0)))), some (.int 2)] [] (hG σ sr ln Lc μ) rfl ?_
  refine am_g 3 13 [some (.ref 20), some (.int (nI (max (max 0 (pu_mt (σ 7) T (pu_fm 0) 0)) (pu_mt (σ 7) T (pu_fm 1) 0)))), some (.int 2)] [.int 2, .ref 20, .int (nI (max (max 0 (pu_mt (σ 7) T (pu_fm 0) 0)) (pu_mt (σ 7) T (pu_fm 1) 0)))] (hG σ sr ln Lc μ) rfl ?_
  refine am_call (y := 74) (vs := [.int 2]) (rest := [.ref 20, .int (nI (max (max 0 (pu_mt (σ 7) T (pu_fm 0) 0)) (pu_mt (σ 7) T (pu_fm 1) 0)))]) (v := (some (.ref 2))) (h1 := (hG σ sr ln Lc μ)) rfl rfl rfl (sp_X9_formOf_2 (d + 4) _) ?_
  refine am_call (y := 76) (vs := [.ref 20, .ref 2]) (rest := [.int (nI (max (max 0 (pu_mt (σ 7) T (pu_fm 0) 0)) (pu_mt (σ 7) T (pu_fm 1) 0)))]) (v := (some (.int (nI (pu_mt (σ 7) T (pu_fm 2) 0))))) (h1 := (hG σ sr ln Lc μ)) rfl rfl rfl (sp_X9_matched_2 (σ := σ) (μ := μ) d hT hT20) ?_
  refine am_g 1 22 [some (.ref 20), some (.int (nI (max (max 0 (pu_mt (σ 7) T (pu_fm 0) 0)) (pu_mt (σ 7) T (pu_fm 1) 0)))), some (.int 2)] [.int (if (nI (max (max 0 (pu_mt (σ 7) T (pu_fm 0) 0)) (pu_mt (σ 7) T (pu_fm 1) 0))) < (nI (pu_mt (σ 7) T (pu_fm 2) 0)) then (nI (pu_mt (σ 7) T (pu_fm 2) 0)) else (nI (max (max 0 (pu_mt (σ 7) T (pu_fm 0) 0)) (pu_mt (σ 7) T (pu_fm 1) 0))))] (hG σ sr ln Lc μ) rfl ?_
  rw [show (if (nI (max (max 0 (pu_mt (σ 7) T (pu_fm 0) 0)) (pu_mt (σ 7) T (pu_fm 1) 0))) < (nI (pu_mt (σ 7) T (pu_fm 2) 0)) then (nI (pu_mt (σ 7) T (pu_fm 2) 0)) else (nI (max (max 0 (pu_mt (σ 7) T (pu_fm 0) 0)) (pu_mt (σ 7) T (pu_fm 1) 0)))) = nI (max (max (max 0 (pu_mt (σ 7) T (pu_fm 0) 0)) (pu_mt (σ 7) T (pu_fm 1) 0)) (pu_mt (σ 7) T (pu_fm 2) 0)) from nI_max (a := (max (max 0 (pu_mt (σ 7) T (pu_fm 0) 0)) (pu_mt (σ 7) T (pu_fm 1) 0))) (b := (pu_mt (σ 7) T (pu_fm 2) 0)) (Nat.max_lt.mpr ⟨(Nat.max_lt.mpr ⟨(by decide), (Nat.lt_of_le_of_lt (pu_mt_le (σ 7) T (pu_fm 0) 0) (by decide))⟩), (Nat.lt_of_le_of_lt (pu_mt_le (σ 7) T (pu_fm 1) 0) (by decide))⟩) (Nat.lt_of_le_of_lt (pu_mt_le (σ 7) T (pu_fm 2) 0) (by decide))]
  refine am_g 6 10 [some (.ref 20), some (.int (nI (max (max (max 0 (pu_mt (σ 7) T (pu_fm 0) 0)) (pu_mt (σ 7) T (pu_fm 1) 0)) (pu_mt (σ 7) T (pu_fm 2) 0)))), some (.int 3)] [] (hG σ sr ln Lc μ) rfl ?_
  refine am_g 3 13 [some (.ref 20), some (.int (nI (max (max (max 0 (pu_mt (σ 7) T (pu_fm 0) 0)) (pu_mt (σ 7) T (pu_fm 1) 0)) (pu_mt (σ 7) T (pu_fm 2) 0)))), some (.int 3)] [.int 3, .ref 20, .int (nI (max (max (max 0 (pu_mt (σ 7) T (pu_fm 0) 0)) (pu_mt (σ 7) T (pu_fm 1) 0)) (pu_mt (σ 7) T (pu_fm 2) 0)))] (hG σ sr ln Lc μ) rfl ?_
  refine am_call (y := 74) (vs := [.int 3]) (rest := [.ref 20, .int (nI (max (max (max 0 (pu_mt (σ 7) T (pu_fm 0) 0)) (pu_mt (σ 7) T (pu_fm 1) 0)) (pu_mt (σ 7) T (pu_fm 2) 0)))]) (v := (some (.ref 3))) (h1 := (hG σ sr ln Lc μ)) rfl rfl rfl (sp_X9_formOf_3 (d + 4) _) ?_
  refine am_call (y := 76) (vs := [.ref 20, .ref 3]) (rest := [.int (nI (max (max (max 0 (pu_mt (σ 7) T (pu_fm 0) 0)) (pu_mt (σ 7) T (pu_fm 1) 0)) (pu_mt (σ 7) T (pu_fm 2) 0)))]) (v := (some (.int (nI (pu_mt (σ 7) T (pu_fm 3) 0))))) (h1 := (hG σ sr ln Lc μ)) rfl rfl rfl (sp_X9_matched_3 (σ := σ) (μ := μ) d hT hT20) ?_
  refine am_g 1 22 [some (.ref 20), some (.int (nI (max (max (max 0 (pu_mt (σ 7) T (pu_fm 0) 0)) (pu_mt (σ 7) T (pu_fm 1) 0)) (pu_mt (σ 7) T (pu_fm 2) 0)))), some (.int 3)] [.int (if (nI (max (max (max 0 (pu_mt (σ 7) T (pu_fm 0) 0)) (pu_mt (σ 7) T (pu_fm 1) 0)) (pu_mt (σ 7) T (pu_fm 2) 0))) < (nI (pu_mt (σ 7) T (pu_fm 3) 0)) then (nI (pu_mt (σ 7) T (pu_fm 3) 0)) else (nI (max (max (max 0 (pu_mt (σ 7) T (pu_fm 0) 0)) (pu_mt (σ 7) T (pu_fm 1) 0)) (pu_mt (σ 7) T (pu_fm 2) 0))))] (hG σ sr ln Lc μ) rfl ?_
  rw [show (if (nI (max (max (max 0 (pu_mt (σ 7) T (pu_fm 0) 0)) (pu_mt (σ 7) T (pu_fm 1) 0)) (pu_mt (σ 7) T (pu_fm 2) 0))) < (nI (pu_mt (σ 7) T (pu_fm 3) 0)) then (nI (pu_mt (σ 7) T (pu_fm 3) 0)) else (nI (max (max (max 0 (pu_mt (σ 7) T (pu_fm 0) 0)) (pu_mt (σ 7) T (pu_fm 1) 0)) (pu_mt (σ 7) T (pu_fm 2) 0)))) = nI (max (max (max (max 0 (pu_mt (σ 7) T (pu_fm 0) 0)) (pu_mt (σ 7) T (pu_fm 1) 0)) (pu_mt (σ 7) T (pu_fm 2) 0)) (pu_mt (σ 7) T (pu_fm 3) 0)) from nI_max (a := (max (max (max 0 (pu_mt (σ 7) T (pu_fm 0) 0)) (pu_mt (σ 7) T (pu_fm 1) 0)) (pu_mt (σ 7) T (pu_fm 2) 0))) (b := (pu_mt (σ 7) T (pu_fm 3) 0)) (Nat.max_lt.mpr ⟨(Nat.max_lt.mpr ⟨(Nat.max_lt.mpr ⟨(by decide), (Nat.lt_of_le_of_lt (pu_mt_le (σ 7) T (pu_fm 0) 0) (by decide))⟩), (Nat.lt_of_le_of_lt (pu_mt_le (σ 7) T (pu_fm 1) 0) (by decide))⟩), (Nat.lt_of_le_of_lt (pu_mt_le (σ 7) T (pu_fm 2) 0) (by decide))⟩) (Nat.lt_of_le_of_lt (pu_mt_le (σ 7) T (pu_fm 3) 0) (by decide))]
  refine am_g 6 10 [some (.ref 20), some (.int (nI (max (max (max (max 0 (pu_mt (σ 7) T (pu_fm 0) 0)) (pu_mt (σ 7) T (pu_fm 1) 0)) (pu_mt (σ 7) T (pu_fm 2) 0)) (pu_mt (σ 7) T (pu_fm 3) 0)))), some (.int 4)] [] (hG σ sr ln Lc μ) rfl ?_
  refine am_g 3 13 [some (.ref 20), some (.int (nI (max (max (max (max 0 (pu_mt (σ 7) T (pu_fm 0) 0)) (pu_mt (σ 7) T (pu_fm 1) 0)) (pu_mt (σ 7) T (pu_fm 2) 0)) (pu_mt (σ 7) T (pu_fm 3) 0)))), some (.int 4)] [.int 4, .ref 20, .int (nI (max (max (max (max 0 (pu_mt (σ 7) T (pu_fm 0) 0)) (pu_mt (σ 7) T (pu_fm 1) 0)) (pu_mt (σ 7) T (pu_fm 2) 0)) (pu_mt (σ 7) T (pu_fm 3) 0)))] (hG σ sr ln Lc μ) rfl ?_
  refine am_call (y := 74) (vs := [.int 4]) (rest := [.ref 20, .int (nI (max (max (max (max 0 (pu_mt (σ 7) T (pu_fm 0) 0)) (pu_mt (σ 7) T (pu_fm 1) 0)) (pu_mt (σ 7) T (pu_fm 2) 0)) (pu_mt (σ 7) T (pu_fm 3) 0)))]) (v := (some (.ref 4))) (h1 := (hG σ sr ln Lc μ)) rfl rfl rfl (sp_X9_formOf_4 (d + 4) _) ?_
  refine am_call (y := 76) (vs := [.ref 20, .ref 4]) (rest := [.int (nI (max (max (max (max 0 (pu_mt (σ 7) T (pu_fm 0) 0)) (pu_mt (σ 7) T (pu_fm 1) 0)) (pu_mt (σ 7) T (pu_fm 2) 0)) (pu_mt (σ 7) T (pu_fm 3) 0)))]) (v := (some (.int (nI (pu_mt (σ 7) T (pu_fm 4) 0))))) (h1 := (hG σ sr ln Lc μ)) rfl rfl rfl (sp_X9_matched_4 (σ := σ) (μ := μ) d hT hT20) ?_
  refine am_g 1 22 [some (.ref 20), some (.int (nI (max (max (max (max 0 (pu_mt (σ 7) T (pu_fm 0) 0)) (pu_mt (σ 7) T (pu_fm 1) 0)) (pu_mt (σ 7) T (pu_fm 2) 0)) (pu_mt (σ 7) T (pu_fm 3) 0)))), some (.int 4)] [.int (if (nI (max (max (max (max 0 (pu_mt (σ 7) T (pu_fm 0) 0)) (pu_mt (σ 7) T (pu_fm 1) 0)) (pu_mt (σ 7) T (pu_fm 2) 0)) (pu_mt (σ 7) T (pu_fm 3) 0))) < (nI (pu_mt (σ 7) T (pu_fm 4) 0)) then (nI (pu_mt (σ 7) T (pu_fm 4) 0)) else (nI (max (max (max (max 0 (pu_mt (σ 7) T (pu_fm 0) 0)) (pu_mt (σ 7) T (pu_fm 1) 0)) (pu_mt (σ 7) T (pu_fm 2) 0)) (pu_mt (σ 7) T (pu_fm 3) 0))))] (hG σ sr ln Lc μ) rfl ?_
  rw [show (if (nI (max (max (max (max 0 (pu_mt (σ 7) T (pu_fm 0) 0)) (pu_mt (σ 7) T (pu_fm 1) 0)) (pu_mt (σ 7) T (pu_fm 2) 0)) (pu_mt (σ 7) T (pu_fm 3) 0))) < (nI (pu_mt (σ 7) T (pu_fm 4) 0)) then (nI (pu_mt (σ 7) T (pu_fm 4) 0)) else (nI (max (max (max (max 0 (pu_mt (σ 7) T (pu_fm 0) 0)) (pu_mt (σ 7) T (pu_fm 1) 0)) (pu_mt (σ 7) T (pu_fm 2) 0)) (pu_mt (σ 7) T (pu_fm 3) 0)))) = nI (max (max (max (max (max 0 (pu_mt (σ 7) T (pu_fm 0) 0)) (pu_mt (σ 7) T (pu_fm 1) 0)) (pu_mt (σ 7) T (pu_fm 2) 0)) (pu_mt (σ 7) T (pu_fm 3) 0)) (pu_mt (σ 7) T (pu_fm 4) 0)) from nI_max (a := (max (max (max (max 0 (pu_mt (σ 7) T (pu_fm 0) 0)) (pu_mt (σ 7) T (pu_fm 1) 0)) (pu_mt (σ 7) T (pu_fm 2) 0)) (pu_mt (σ 7) T (pu_fm 3) 0))) (b := (pu_mt (σ 7) T (pu_fm 4) 0)) (Nat.max_lt.mpr ⟨(Nat.max_lt.mpr ⟨(Nat.max_lt.mpr ⟨(Nat.max_lt.mpr ⟨(by decide), (Nat.lt_of_le_of_lt (pu_mt_le (σ 7) T (pu_fm 0) 0) (by decide))⟩), (Nat.lt_of_le_of_lt (pu_mt_le (σ 7) T (pu_fm 1) 0) (by decide))⟩), (Nat.lt_of_le_of_lt (pu_mt_le (σ 7) T (pu_fm 2) 0) (by decide))⟩), (Nat.lt_of_le_of_lt (pu_mt_le (σ 7) T (pu_fm 3) 0) (by decide))⟩) (Nat.lt_of_le_of_lt (pu_mt_le (σ 7) T (pu_fm 4) 0) (by decide))]
  refine am_g 6 10 [some (.ref 20), some (.int (nI (max (max (max (max (max 0 (pu_mt (σ 7) T (pu_fm 0) 0)) (pu_mt (σ 7) T (pu_fm 1) 0)) (pu_mt (σ 7) T (pu_fm 2) 0)) (pu_mt (σ 7) T (pu_fm 3) 0)) (pu_mt (σ 7) T (pu_fm 4) 0)))), some (.int 5)] [] (hG σ sr ln Lc μ) rfl ?_
  refine am_g 3 13 [some (.ref 20), some (.int (nI (max (max (max (max (max 0 (pu_mt (σ 7) T (pu_fm 0) 0)) (pu_mt (σ 7) T (pu_fm 1) 0)) (pu_mt (σ 7) T (pu_fm 2) 0)) (pu_mt (σ 7) T (pu_fm 3) 0)) (pu_mt (σ 7) T (pu_fm 4) 0)))), some (.int 5)] [.int 5, .ref 20, .int (nI (max (max (max (max (max 0 (pu_mt (σ 7) T (pu_fm 0) 0)) (pu_mt (σ 7) T (pu_fm 1) 0)) (pu_mt (σ 7) T (pu_fm 2) 0)) (pu_mt (σ 7) T (pu_fm 3) 0)) (pu_mt (σ 7) T (pu_fm 4) 0)))] (hG σ sr ln Lc μ) rfl ?_
  refine am_call (y := 74) (vs := [.int 5]) (rest := [.ref 20, .int (nI (max (max (max (max (max 0 (pu_mt (σ 7) T (pu_fm 0) 0)) (pu_mt (σ 7) T (pu_fm 1) 0)) (pu_mt (σ 7) T (pu_fm 2) 0)) (pu_mt (σ 7) T (pu_fm 3) 0)) (pu_mt (σ 7) T (pu_fm 4) 0)))]) (v := (some (.ref 5))) (h1 := (hG σ sr ln Lc μ)) rfl rfl rfl (sp_X9_formOf_5 (d + 4) _) ?_
  refine am_call (y := 76) (vs := [.ref 20, .ref 5]) (rest := [.int (nI (max (max (max (max (max 0 (pu_mt (σ 7) T (pu_fm 0) 0)) (pu_mt (σ 7) T (pu_fm 1) 0)) (pu_mt (σ 7) T (pu_fm 2) 0)) (pu_mt (σ 7) T (pu_fm 3) 0)) (pu_mt (σ 7) T (pu_fm 4) 0)))]) (v := (some (.int (nI (pu_mt (σ 7) T (pu_fm 5) 0))))) (h1 := (hG σ sr ln Lc μ)) rfl rfl rfl (sp_X9_matched_5 (σ := σ) (μ := μ) d hT hT20) ?_
  refine am_g 1 22 [some (.ref 20), some (.int (nI (max (max (max (max (max 0 (pu_mt (σ 7) T (pu_fm 0) 0)) (pu_mt (σ 7) T (pu_fm 1) 0)) (pu_mt (σ 7) T (pu_fm 2) 0)) (pu_mt (σ 7) T (pu_fm 3) 0)) (pu_mt (σ 7) T (pu_fm 4) 0)))), some (.int 5)] [.int (if (nI (max (max (max (max (max 0 (pu_mt (σ 7) T (pu_fm 0) 0)) (pu_mt (σ 7) T (pu_fm 1) 0)) (pu_mt (σ 7) T (pu_fm 2) 0)) (pu_mt (σ 7) T (pu_fm 3) 0)) (pu_mt (σ 7) T (pu_fm 4) 0))) < (nI (pu_mt (σ 7) T (pu_fm 5) 0)) then (nI (pu_mt (σ 7) T (pu_fm 5) 0)) else (nI (max (max (max (max (max 0 (pu_mt (σ 7) T (pu_fm 0) 0)) (pu_mt (σ 7) T (pu_fm 1) 0)) (pu_mt (σ 7) T (pu_fm 2) 0)) (pu_mt (σ 7) T (pu_fm 3) 0)) (pu_mt (σ 7) T (pu_fm 4) 0))))] (hG σ sr ln Lc μ) rfl ?_
  rw [show (if (nI (max (max (max (max (max 0 (pu_mt (σ 7) T (pu_fm 0) 0)) (pu_mt (σ 7) T (pu_fm 1) 0)) (pu_mt (σ 7) T (pu_fm 2) 0)) (pu_mt (σ 7) T (pu_fm 3) 0)) (pu_mt (σ 7) T (pu_fm 4) 0))) < (nI (pu_mt (σ 7) T (pu_fm 5) 0)) then (nI (pu_mt (σ 7) T (pu_fm 5) 0)) else (nI (max (max (max (max (max 0 (pu_mt (σ 7) T (pu_fm 0) 0)) (pu_mt (σ 7) T (pu_fm 1) 0)) (pu_mt (σ 7) T (pu_fm 2) 0)) (pu_mt (σ 7) T (pu_fm 3) 0)) (pu_mt (σ 7) T (pu_fm 4) 0)))) = nI (max (max (max (max (max (max 0 (pu_mt (σ 7) T (pu_fm 0) 0)) (pu_mt (σ 7) T (pu_fm 1) 0)) (pu_mt (σ 7) T (pu_fm 2) 0)) (pu_mt (σ 7) T (pu_fm 3) 0)) (pu_mt (σ 7) T (pu_fm 4) 0)) (pu_mt (σ 7) T (pu_fm 5) 0)) from nI_max (a := (max (max (max (max (max 0 (pu_mt (σ 7) T (pu_fm 0) 0)) (pu_mt (σ 7) T (pu_fm 1) 0)) (pu_mt (σ 7) T (pu_fm 2) 0)) (pu_mt (σ 7) T (pu_fm 3) 0)) (pu_mt (σ 7) T (pu_fm 4) 0))) (b := (pu_mt (σ 7) T (pu_fm 5) 0)) (Nat.max_lt.mpr ⟨(Nat.max_lt.mpr ⟨(Nat.max_lt.mpr ⟨(Nat.max_lt.mpr ⟨(Nat.max_lt.mpr ⟨(by decide), (Nat.lt_of_le_of_lt (pu_mt_le (σ 7) T (pu_fm 0) 0) (by decide))⟩), (Nat.lt_of_le_of_lt (pu_mt_le (σ 7) T (pu_fm 1) 0) (by decide))⟩), (Nat.lt_of_le_of_lt (pu_mt_le (σ 7) T (pu_fm 2) 0) (by decide))⟩), (Nat.lt_of_le_of_lt (pu_mt_le (σ 7) T (pu_fm 3) 0) (by decide))⟩), (Nat.lt_of_le_of_lt (pu_mt_le (σ 7) T (pu_fm 4) 0) (by decide))⟩) (Nat.lt_of_le_of_lt (pu_mt_le (σ 7) T (pu_fm 5) 0) (by decide))]
  refine am_g 6 29 [some (.ref 20), some (.int (nI (max (max (max (max (max (max 0 (pu_mt (σ 7) T (pu_fm 0) 0)) (pu_mt (σ 7) T (pu_fm 1) 0)) (pu_mt (σ 7) T (pu_fm 2) 0)) (pu_mt (σ 7) T (pu_fm 3) 0)) (pu_mt (σ 7) T (pu_fm 4) 0)) (pu_mt (σ 7) T (pu_fm 5) 0)))), some (.int 6)] [] (hG σ sr ln Lc μ) rfl ?_
  refine am_g 1 30 [some (.ref 20), some (.int (nI (max (max (max (max (max (max 0 (pu_mt (σ 7) T (pu_fm 0) 0)) (pu_mt (σ 7) T (pu_fm 1) 0)) (pu_mt (σ 7) T (pu_fm 2) 0)) (pu_mt (σ 7) T (pu_fm 3) 0)) (pu_mt (σ 7) T (pu_fm 4) 0)) (pu_mt (σ 7) T (pu_fm 5) 0)))), some (.int 6)] [.int (nI (max (max (max (max (max (max 0 (pu_mt (σ 7) T (pu_fm 0) 0)) (pu_mt (σ 7) T (pu_fm 1) 0)) (pu_mt (σ 7) T (pu_fm 2) 0)) (pu_mt (σ 7) T (pu_fm 3) 0)) (pu_mt (σ 7) T (pu_fm 4) 0)) (pu_mt (σ 7) T (pu_fm 5) 0)))] (hG σ sr ln Lc μ) rfl ?_
  exact am_ret2 rfl rfl rfl rfl rfl
theorem sp_X9_letterOf_0_120 (d : Nat) {T : Nat} (hT : σ 8 0 = nI T) (hT20 : T ≤ 20) (hp : 0 < T) : am_X xs LL (d + 5) 79 [.ref 20, .int 0, .int 120] (hG σ sr ln Lc μ) (some (.int ((σ 7 0) - 97))) (hG σ sr ln Lc μ) := by
  refine am_XR (d := d + 4) (C := cd_X9_letterOf) (L := [some (.ref 20), some (.int 0), some (.int 120), none]) rfl rfl rfl rfl ?_
  refine am_g 1 1 [some (.ref 20), some (.int 0), some (.int 120), none] [.int 0] (hG σ sr ln Lc μ) rfl ?_
  refine am_call (y := 74) (vs := [.int 0]) (rest := []) (v := (some (.ref 6))) (h1 := (hG σ sr ln Lc μ)) rfl rfl rfl (sp_X9_formOf_0 (d + 3) _) ?_
  refine am_g 1 5 [some (.ref 20), some (.int 0), some (.int 120), none] [.int 120, .ref 6] (hG σ sr ln Lc μ) rfl ?_
  refine am_call (y := 214) (vs := [.ref 6, .int 120]) (rest := []) (v := (some (.int 0))) (h1 := (hG σ sr ln Lc μ)) rfl rfl rfl (sp_J0_indexOf_0f7a4_6_120 d _) ?_
  refine am_g 5 19 [some (.ref 20), some (.int 0), some (.int 120), some (.int 0)] [.int 0, .ref 20] (hG σ sr ln Lc μ) rfl ?_
  refine am_call (y := 73) (vs := [.ref 20, .int 0]) (rest := []) (v := (some (.int (σ 7 0)))) (h1 := (hG σ sr ln Lc μ)) rfl rfl rfl (sp_X9_byteAt_lo (σ := σ) (μ := μ) (d + 3) hT hT20 0 (by omega)) ?_
  refine am_g 2 25 [some (.ref 20), some (.int 0), some (.int 120), some (.int 0)] [.int ((σ 7 0) - 97)] (hG σ sr ln Lc μ) rfl ?_
  exact am_ret2 rfl rfl rfl rfl rfl
theorem sp_X9_letterOf_0_121 (d : Nat) {T : Nat} (hT : σ 8 0 = nI T) (hT20 : T ≤ 20) (hp : 2 < T) : am_X xs LL (d + 5) 79 [.ref 20, .int 0, .int 121] (hG σ sr ln Lc μ) (some (.int ((σ 7 2) - 97))) (hG σ sr ln Lc μ) := by
  refine am_XR (d := d + 4) (C := cd_X9_letterOf) (L := [some (.ref 20), some (.int 0), some (.int 121), none]) rfl rfl rfl rfl ?_
  refine am_g 1 1 [some (.ref 20), some (.int 0), some (.int 121), none] [.int 0] (hG σ sr ln Lc μ) rfl ?_
  refine am_call (y := 74) (vs := [.int 0]) (rest := []) (v := (some (.ref 6))) (h1 := (hG σ sr ln Lc μ)) rfl rfl rfl (sp_X9_formOf_0 (d + 3) _) ?_
  refine am_g 1 5 [some (.ref 20), some (.int 0), some (.int 121), none] [.int 121, .ref 6] (hG σ sr ln Lc μ) rfl ?_
  refine am_call (y := 214) (vs := [.ref 6, .int 121]) (rest := []) (v := (some (.int 2))) (h1 := (hG σ sr ln Lc μ)) rfl rfl rfl (sp_J0_indexOf_0f7a4_6_121 d _) ?_
  refine am_g 5 19 [some (.ref 20), some (.int 0), some (.int 121), some (.int 2)] [.int 2, .ref 20] (hG σ sr ln Lc μ) rfl ?_
  refine am_call (y := 73) (vs := [.ref 20, .int 2]) (rest := []) (v := (some (.int (σ 7 2)))) (h1 := (hG σ sr ln Lc μ)) rfl rfl rfl (sp_X9_byteAt_lo (σ := σ) (μ := μ) (d + 3) hT hT20 2 (by omega)) ?_
  refine am_g 2 25 [some (.ref 20), some (.int 0), some (.int 121), some (.int 2)] [.int ((σ 7 2) - 97)] (hG σ sr ln Lc μ) rfl ?_
  exact am_ret2 rfl rfl rfl rfl rfl
theorem sp_X9_numberOf_0 (d : Nat) {T : Nat} (hT : σ 8 0 = nI T) (hT20 : T ≤ 20) : am_X xs LL (d + 5) 80 [.ref 20, .int 0] (hG σ sr ln Lc μ) (some (.int (-1))) (hG σ sr ln Lc μ) := by
  refine am_XR (d := d + 4) (C := cd_X9_numberOf) (L := [some (.ref 20), some (.int 0), none, none]) rfl rfl rfl rfl ?_
  refine am_g 1 1 [some (.ref 20), some (.int 0), none, none] [.int 0] (hG σ sr ln Lc μ) rfl ?_
  refine am_call (y := 74) (vs := [.int 0]) (rest := []) (v := (some (.ref 6))) (h1 := (hG σ sr ln Lc μ)) rfl rfl rfl (sp_X9_formOf_0 (d + 3) _) ?_
  refine am_g 3 8 [some (.ref 20), some (.int 0), some (.ref 6), none] [.int 55, .ref 6] (hG σ sr ln Lc μ) rfl ?_
  refine am_call (y := 214) (vs := [.ref 6, .int 55]) (rest := []) (v := (some (.int (-1)))) (h1 := (hG σ sr ln Lc μ)) rfl rfl rfl (sp_J0_indexOf_0f7a4_6_55 d _) ?_
  refine am_g 2 14 [some (.ref 20), some (.int 0), some (.ref 6), none] [.int 50, .ref 6, .int (-1)] (hG σ sr ln Lc μ) rfl ?_
  refine am_call (y := 214) (vs := [.ref 6, .int 50]) (rest := [.int (-1)]) (v := (some (.int (-1)))) (h1 := (hG σ sr ln Lc μ)) rfl rfl rfl (sp_J0_indexOf_0f7a4_6_50 d _) ?_
  refine am_g 6 37 [some (.ref 20), some (.int 0), some (.ref 6), some (.int (-1))] [.int (-1)] (hG σ sr ln Lc μ) rfl ?_
  exact am_ret2 rfl rfl rfl rfl rfl
theorem sp_X9_letterOf_1_120 (d : Nat) {T : Nat} (hT : σ 8 0 = nI T) (hT20 : T ≤ 20) (hp : 0 < T) : am_X xs LL (d + 5) 79 [.ref 20, .int 1, .int 120] (hG σ sr ln Lc μ) (some (.int ((σ 7 0) - 97))) (hG σ sr ln Lc μ) := by
  refine am_XR (d := d + 4) (C := cd_X9_letterOf) (L := [some (.ref 20), some (.int 1), some (.int 120), none]) rfl rfl rfl rfl ?_
  refine am_g 1 1 [some (.ref 20), some (.int 1), some (.int 120), none] [.int 1] (hG σ sr ln Lc μ) rfl ?_
  refine am_call (y := 74) (vs := [.int 1]) (rest := []) (v := (some (.ref 1))) (h1 := (hG σ sr ln Lc μ)) rfl rfl rfl (sp_X9_formOf_1 (d + 3) _) ?_
  refine am_g 1 5 [some (.ref 20), some (.int 1), some (.int 120), none] [.int 120, .ref 1] (hG σ sr ln Lc μ) rfl ?_
  refine am_call (y := 214) (vs := [.ref 1, .int 120]) (rest := []) (v := (some (.int 0))) (h1 := (hG σ sr ln Lc μ)) rfl rfl rfl (sp_J0_indexOf_0f7a4_1_120 d _) ?_
  refine am_g 5 19 [some (.ref 20), some (.int 1), some (.int 120), some (.int 0)] [.int 0, .ref 20] (hG σ sr ln Lc μ) rfl ?_
  refine am_call (y := 73) (vs := [.ref 20, .int 0]) (rest := []) (v := (some (.int (σ 7 0)))) (h1 := (hG σ sr ln Lc μ)) rfl rfl rfl (sp_X9_byteAt_lo (σ := σ) (μ := μ) (d + 3) hT hT20 0 (by omega)) ?_
  refine am_g 2 25 [some (.ref 20), some (.int 1), some (.int 120), some (.int 0)] [.int ((σ 7 0) - 97)] (hG σ sr ln Lc μ) rfl ?_
  exact am_ret2 rfl rfl rfl rfl rfl
theorem sp_X9_letterOf_1_121 (d : Nat) {T : Nat} (hT : σ 8 0 = nI T) (hT20 : T ≤ 20) (hp : 2 < T) : am_X xs LL (d + 5) 79 [.ref 20, .int 1, .int 121] (hG σ sr ln Lc μ) (some (.int ((σ 7 2) - 97))) (hG σ sr ln Lc μ) := by
  refine am_XR (d := d + 4) (C := cd_X9_letterOf) (L := [some (.ref 20), some (.int 1), some (.int 121), none]) rfl rfl rfl rfl ?_
  refine am_g 1 1 [some (.ref 20), some (.int 1), some (.int 121), none] [.int 1] (hG σ sr ln Lc μ) rfl ?_
  refine am_call (y := 74) (vs := [.int 1]) (rest := []) (v := (some (.ref 1))) (h1 := (hG σ sr ln Lc μ)) rfl rfl rfl (sp_X9_formOf_1 (d + 3) _) ?_
  refine am_g 1 5 [some (.ref 20), some (.int 1), some (.int 121), none] [.int 121, .ref 1] (hG σ sr ln Lc μ) rfl ?_
  refine am_call (y := 214) (vs := [.ref 1, .int 121]) (rest := []) (v := (some (.int 2))) (h1 := (hG σ sr ln Lc μ)) rfl rfl rfl (sp_J0_indexOf_0f7a4_1_121 d _) ?_
  refine am_g 5 19 [some (.ref 20), some (.int 1), some (.int 121), some (.int 2)] [.int 2, .ref 20] (hG σ sr ln Lc μ) rfl ?_
  refine am_call (y := 73) (vs := [.ref 20, .int 2]) (rest := []) (v := (some (.int (σ 7 2)))) (h1 := (hG σ sr ln Lc μ)) rfl rfl rfl (sp_X9_byteAt_lo (σ := σ) (μ := μ) (d + 3) hT hT20 2 (by omega)) ?_
  refine am_g 2 25 [some (.ref 20), some (.int 1), some (.int 121), some (.int 2)] [.int ((σ 7 2) - 97)] (hG σ sr ln Lc μ) rfl ?_
  exact am_ret2 rfl rfl rfl rfl rfl
theorem sp_X9_numberOf_1 (d : Nat) {T : Nat} (hT : σ 8 0 = nI T) (hT20 : T ≤ 20) (hp : 4 < T) : am_X xs LL (d + 5) 80 [.ref 20, .int 1] (hG σ sr ln Lc μ) (some (.int ((σ 7 4) - 48))) (hG σ sr ln Lc μ) := by
  refine am_XR (d := d + 4) (C := cd_X9_numberOf) (L := [some (.ref 20), some (.int 1), none, none]) rfl rfl rfl rfl ?_
  refine am_g 1 1 [some (.ref 20), some (.int 1), none, none] [.int 1] (hG σ sr ln Lc μ) rfl ?_
  refine am_call (y := 74) (vs := [.int 1]) (rest := []) (v := (some (.ref 1))) (h1 := (hG σ sr ln Lc μ)) rfl rfl rfl (sp_X9_formOf_1 (d + 3) _) ?_
  refine am_g 3 8 [some (.ref 20), some (.int 1), some (.ref 1), none] [.int 55, .ref 1] (hG σ sr ln Lc μ) rfl ?_
  refine am_call (y := 214) (vs := [.ref 1, .int 55]) (rest := []) (v := (some (.int 4))) (h1 := (hG σ sr ln Lc μ)) rfl rfl rfl (sp_J0_indexOf_0f7a4_1_55 d _) ?_
  refine am_g 2 14 [some (.ref 20), some (.int 1), some (.ref 1), none] [.int 50, .ref 1, .int 4] (hG σ sr ln Lc μ) rfl ?_
  refine am_call (y := 214) (vs := [.ref 1, .int 50]) (rest := [.int 4]) (v := (some (.int (-1)))) (h1 := (hG σ sr ln Lc μ)) rfl rfl rfl (sp_J0_indexOf_0f7a4_1_50 d _) ?_
  refine am_g 6 31 [some (.ref 20), some (.int 1), some (.ref 1), some (.int 4)] [.int 4, .ref 20] (hG σ sr ln Lc μ) rfl ?_
  refine am_call (y := 73) (vs := [.ref 20, .int 4]) (rest := []) (v := (some (.int (σ 7 4)))) (h1 := (hG σ sr ln Lc μ)) rfl rfl rfl (sp_X9_byteAt_lo (σ := σ) (μ := μ) (d + 3) hT hT20 4 (by omega)) ?_
  refine am_g 2 37 [some (.ref 20), some (.int 1), some (.ref 1), some (.int 4)] [.int ((σ 7 4) - 48)] (hG σ sr ln Lc μ) rfl ?_
  exact am_ret2 rfl rfl rfl rfl rfl
theorem sp_X9_letterOf_2_120 (d : Nat) {T : Nat} (hT : σ 8 0 = nI T) (hT20 : T ≤ 20) (hp : 0 < T) : am_X xs LL (d + 5) 79 [.ref 20, .int 2, .int 120] (hG σ sr ln Lc μ) (some (.int ((σ 7 0) - 97))) (hG σ sr ln Lc μ) := by
  refine am_XR (d := d + 4) (C := cd_X9_letterOf) (L := [some (.ref 20), some (.int 2), some (.int 120), none]) rfl rfl rfl rfl ?_
  refine am_g 1 1 [some (.ref 20), some (.int 2), some (.int 120), none] [.int 2] (hG σ sr ln Lc μ) rfl ?_
  refine am_call (y := 74) (vs := [.int 2]) (rest := []) (v := (some (.ref 2))) (h1 := (hG σ sr ln Lc μ)) rfl rfl rfl (sp_X9_formOf_2 (d + 3) _) ?_
  refine am_g 1 5 [some (.ref 20), some (.int 2), some (.int 120), none] [.int 120, .ref 2] (hG σ sr ln Lc μ) rfl ?_
  refine am_call (y := 214) (vs := [.ref 2, .int 120]) (rest := []) (v := (some (.int 0))) (h1 := (hG σ sr ln Lc μ)) rfl rfl rfl (sp_J0_indexOf_0f7a4_2_120 d _) ?_
  refine am_g 5 19 [some (.ref 20), some (.int 2), some (.int 120), some (.int 0)] [.int 0, .ref 20] (hG σ sr ln Lc μ) rfl ?_
  refine am_call (y := 73) (vs := [.ref 20, .int 0]) (rest := []) (v := (some (.int (σ 7 0)))) (h1 := (hG σ sr ln Lc μ)) rfl rfl rfl (sp_X9_byteAt_lo (σ := σ) (μ := μ) (d + 3) hT hT20 0 (by omega)) ?_
  refine am_g 2 25 [some (.ref 20), some (.int 2), some (.int 120), some (.int 0)] [.int ((σ 7 0) - 97)] (hG σ sr ln Lc μ) rfl ?_
  exact am_ret2 rfl rfl rfl rfl rfl
theorem sp_X9_letterOf_2_121 (d : Nat) {T : Nat} (hT : σ 8 0 = nI T) (hT20 : T ≤ 20) (hp : 2 < T) : am_X xs LL (d + 5) 79 [.ref 20, .int 2, .int 121] (hG σ sr ln Lc μ) (some (.int ((σ 7 2) - 97))) (hG σ sr ln Lc μ) := by
  refine am_XR (d := d + 4) (C := cd_X9_letterOf) (L := [some (.ref 20), some (.int 2), some (.int 121), none]) rfl rfl rfl rfl ?_
  refine am_g 1 1 [some (.ref 20), some (.int 2), some (.int 121), none] [.int 2] (hG σ sr ln Lc μ) rfl ?_
  refine am_call (y := 74) (vs := [.int 2]) (rest := []) (v := (some (.ref 2))) (h1 := (hG σ sr ln Lc μ)) rfl rfl rfl (sp_X9_formOf_2 (d + 3) _) ?_
  refine am_g 1 5 [some (.ref 20), some (.int 2), some (.int 121), none] [.int 121, .ref 2] (hG σ sr ln Lc μ) rfl ?_
  refine am_call (y := 214) (vs := [.ref 2, .int 121]) (rest := []) (v := (some (.int 2))) (h1 := (hG σ sr ln Lc μ)) rfl rfl rfl (sp_J0_indexOf_0f7a4_2_121 d _) ?_
  refine am_g 5 19 [some (.ref 20), some (.int 2), some (.int 121), some (.int 2)] [.int 2, .ref 20] (hG σ sr ln Lc μ) rfl ?_
  refine am_call (y := 73) (vs := [.ref 20, .int 2]) (rest := []) (v := (some (.int (σ 7 2)))) (h1 := (hG σ sr ln Lc μ)) rfl rfl rfl (sp_X9_byteAt_lo (σ := σ) (μ := μ) (d + 3) hT hT20 2 (by omega)) ?_
  refine am_g 2 25 [some (.ref 20), some (.int 2), some (.int 121), some (.int 2)] [.int ((σ 7 2) - 97)] (hG σ sr ln Lc μ) rfl ?_
  exact am_ret2 rfl rfl rfl rfl rfl
theorem sp_X9_numberOf_2 (d : Nat) {T : Nat} (hT : σ 8 0 = nI T) (hT20 : T ≤ 20) (hp : 4 < T) : am_X xs LL (d + 5) 80 [.ref 20, .int 2] (hG σ sr ln Lc μ) (some (.int ((σ 7 4) - 48))) (hG σ sr ln Lc μ) := by
  refine am_XR (d := d + 4) (C := cd_X9_numberOf) (L := [some (.ref 20), some (.int 2), none, none]) rfl rfl rfl rfl ?_
  refine am_g 1 1 [some (.ref 20), some (.int 2), none, none] [.int 2] (hG σ sr ln Lc μ) rfl ?_
  refine am_call (y := 74) (vs := [.int 2]) (rest := []) (v := (some (.ref 2))) (h1 := (hG σ sr ln Lc μ)) rfl rfl rfl (sp_X9_formOf_2 (d + 3) _) ?_
  refine am_g 3 8 [some (.ref 20), some (.int 2), some (.ref 2), none] [.int 55, .ref 2] (hG σ sr ln Lc μ) rfl ?_
  refine am_call (y := 214) (vs := [.ref 2, .int 55]) (rest := []) (v := (some (.int (-1)))) (h1 := (hG σ sr ln Lc μ)) rfl rfl rfl (sp_J0_indexOf_0f7a4_2_55 d _) ?_
  refine am_g 2 14 [some (.ref 20), some (.int 2), some (.ref 2), none] [.int 50, .ref 2, .int (-1)] (hG σ sr ln Lc μ) rfl ?_
  refine am_call (y := 214) (vs := [.ref 2, .int 50]) (rest := [.int (-1)]) (v := (some (.int 4))) (h1 := (hG σ sr ln Lc μ)) rfl rfl rfl (sp_J0_indexOf_0f7a4_2_50 d _) ?_
  refine am_g 6 31 [some (.ref 20), some (.int 2), some (.ref 2), some (.int 4)] [.int 4, .ref 20] (hG σ sr ln Lc μ) rfl ?_
  refine am_call (y := 73) (vs := [.ref 20, .int 4]) (rest := []) (v := (some (.int (σ 7 4)))) (h1 := (hG σ sr ln Lc μ)) rfl rfl rfl (sp_X9_byteAt_lo (σ := σ) (μ := μ) (d + 3) hT hT20 4 (by omega)) ?_
  refine am_g 2 37 [some (.ref 20), some (.int 2), some (.ref 2), some (.int 4)] [.int ((σ 7 4) - 48)] (hG σ sr ln Lc μ) rfl ?_
  exact am_ret2 rfl rfl rfl rfl rfl
theorem sp_X9_letterOf_3_120 (d : Nat) {T : Nat} (hT : σ 8 0 = nI T) (hT20 : T ≤ 20) (hp : 0 < T) : am_X xs LL (d + 5) 79 [.ref 20, .int 3, .int 120] (hG σ sr ln Lc μ) (some (.int ((σ 7 0) - 97))) (hG σ sr ln Lc μ) := by
  refine am_XR (d := d + 4) (C := cd_X9_letterOf) (L := [some (.ref 20), some (.int 3), some (.int 120), none]) rfl rfl rfl rfl ?_
  refine am_g 1 1 [some (.ref 20), some (.int 3), some (.int 120), none] [.int 3] (hG σ sr ln Lc μ) rfl ?_
  refine am_call (y := 74) (vs := [.int 3]) (rest := []) (v := (some (.ref 3))) (h1 := (hG σ sr ln Lc μ)) rfl rfl rfl (sp_X9_formOf_3 (d + 3) _) ?_
  refine am_g 1 5 [some (.ref 20), some (.int 3), some (.int 120), none] [.int 120, .ref 3] (hG σ sr ln Lc μ) rfl ?_
  refine am_call (y := 214) (vs := [.ref 3, .int 120]) (rest := []) (v := (some (.int 0))) (h1 := (hG σ sr ln Lc μ)) rfl rfl rfl (sp_J0_indexOf_0f7a4_3_120 d _) ?_
  refine am_g 5 19 [some (.ref 20), some (.int 3), some (.int 120), some (.int 0)] [.int 0, .ref 20] (hG σ sr ln Lc μ) rfl ?_
  refine am_call (y := 73) (vs := [.ref 20, .int 0]) (rest := []) (v := (some (.int (σ 7 0)))) (h1 := (hG σ sr ln Lc μ)) rfl rfl rfl (sp_X9_byteAt_lo (σ := σ) (μ := μ) (d + 3) hT hT20 0 (by omega)) ?_
  refine am_g 2 25 [some (.ref 20), some (.int 3), some (.int 120), some (.int 0)] [.int ((σ 7 0) - 97)] (hG σ sr ln Lc μ) rfl ?_
  exact am_ret2 rfl rfl rfl rfl rfl
theorem sp_X9_letterOf_3_121 (d : Nat) {T : Nat} (hT : σ 8 0 = nI T) (hT20 : T ≤ 20) (hp : 4 < T) : am_X xs LL (d + 5) 79 [.ref 20, .int 3, .int 121] (hG σ sr ln Lc μ) (some (.int ((σ 7 4) - 97))) (hG σ sr ln Lc μ) := by
  refine am_XR (d := d + 4) (C := cd_X9_letterOf) (L := [some (.ref 20), some (.int 3), some (.int 121), none]) rfl rfl rfl rfl ?_
  refine am_g 1 1 [some (.ref 20), some (.int 3), some (.int 121), none] [.int 3] (hG σ sr ln Lc μ) rfl ?_
  refine am_call (y := 74) (vs := [.int 3]) (rest := []) (v := (some (.ref 3))) (h1 := (hG σ sr ln Lc μ)) rfl rfl rfl (sp_X9_formOf_3 (d + 3) _) ?_
  refine am_g 1 5 [some (.ref 20), some (.int 3), some (.int 121), none] [.int 121, .ref 3] (hG σ sr ln Lc μ) rfl ?_
  refine am_call (y := 214) (vs := [.ref 3, .int 121]) (rest := []) (v := (some (.int 4))) (h1 := (hG σ sr ln Lc μ)) rfl rfl rfl (sp_J0_indexOf_0f7a4_3_121 d _) ?_
  refine am_g 5 19 [some (.ref 20), some (.int 3), some (.int 121), some (.int 4)] [.int 4, .ref 20] (hG σ sr ln Lc μ) rfl ?_
  refine am_call (y := 73) (vs := [.ref 20, .int 4]) (rest := []) (v := (some (.int (σ 7 4)))) (h1 := (hG σ sr ln Lc μ)) rfl rfl rfl (sp_X9_byteAt_lo (σ := σ) (μ := μ) (d + 3) hT hT20 4 (by omega)) ?_
  refine am_g 2 25 [some (.ref 20), some (.int 3), some (.int 121), some (.int 4)] [.int ((σ 7 4) - 97)] (hG σ sr ln Lc μ) rfl ?_
  exact am_ret2 rfl rfl rfl rfl rfl
theorem sp_X9_numberOf_3 (d : Nat) {T : Nat} (hT : σ 8 0 = nI T) (hT20 : T ≤ 20) (hp : 2 < T) : am_X xs LL (d + 5) 80 [.ref 20, .int 3] (hG σ sr ln Lc μ) (some (.int ((σ 7 2) - 48))) (hG σ sr ln Lc μ) := by
  refine am_XR (d := d + 4) (C := cd_X9_numberOf) (L := [some (.ref 20), some (.int 3), none, none]) rfl rfl rfl rfl ?_
  refine am_g 1 1 [some (.ref 20), some (.int 3), none, none] [.int 3] (hG σ sr ln Lc μ) rfl ?_
  refine am_call (y := 74) (vs := [.int 3]) (rest := []) (v := (some (.ref 3))) (h1 := (hG σ sr ln Lc μ)) rfl rfl rfl (sp_X9_formOf_3 (d + 3) _) ?_
  refine am_g 3 8 [some (.ref 20), some (.int 3), some (.ref 3), none] [.int 55, .ref 3] (hG σ sr ln Lc μ) rfl ?_
  refine am_call (y := 214) (vs := [.ref 3, .int 55]) (rest := []) (v := (some (.int (-1)))) (h1 := (hG σ sr ln Lc μ)) rfl rfl rfl (sp_J0_indexOf_0f7a4_3_55 d _) ?_
  refine am_g 2 14 [some (.ref 20), some (.int 3), some (.ref 3), none] [.int 50, .ref 3, .int (-1)] (hG σ sr ln Lc μ) rfl ?_
  refine am_call (y := 214) (vs := [.ref 3, .int 50]) (rest := [.int (-1)]) (v := (some (.int 2))) (h1 := (hG σ sr ln Lc μ)) rfl rfl rfl (sp_J0_indexOf_0f7a4_3_50 d _) ?_
  refine am_g 6 31 [some (.ref 20), some (.int 3), some (.ref 3), some (.int 2)] [.int 2, .ref 20] (hG σ sr ln Lc μ) rfl ?_
  refine am_call (y := 73) (vs := [.ref 20, .int 2]) (rest := []) (v := (some (.int (σ 7 2)))) (h1 := (hG σ sr ln Lc μ)) rfl rfl rfl (sp_X9_byteAt_lo (σ := σ) (μ := μ) (d + 3) hT hT20 2 (by omega)) ?_
  refine am_g 2 37 [some (.ref 20), some (.int 3), some (.ref 3), some (.int 2)] [.int ((σ 7 2) - 48)] (hG σ sr ln Lc μ) rfl ?_
  exact am_ret2 rfl rfl rfl rfl rfl
theorem sp_X9_letterOf_4_120 (d : Nat) {T : Nat} (hT : σ 8 0 = nI T) (hT20 : T ≤ 20) (hp : 0 < T) : am_X xs LL (d + 5) 79 [.ref 20, .int 4, .int 120] (hG σ sr ln Lc μ) (some (.int ((σ 7 0) - 97))) (hG σ sr ln Lc μ) := by
  refine am_XR (d := d + 4) (C := cd_X9_letterOf) (L := [some (.ref 20), some (.int 4), some (.int 120), none]) rfl rfl rfl rfl ?_
  refine am_g 1 1 [some (.ref 20), some (.int 4), some (.int 120), none] [.int 4] (hG σ sr ln Lc μ) rfl ?_
  refine am_call (y := 74) (vs := [.int 4]) (rest := []) (v := (some (.ref 4))) (h1 := (hG σ sr ln Lc μ)) rfl rfl rfl (sp_X9_formOf_4 (d + 3) _) ?_
  refine am_g 1 5 [some (.ref 20), some (.int 4), some (.int 120), none] [.int 120, .ref 4] (hG σ sr ln Lc μ) rfl ?_
  refine am_call (y := 214) (vs := [.ref 4, .int 120]) (rest := []) (v := (some (.int 0))) (h1 := (hG σ sr ln Lc μ)) rfl rfl rfl (sp_J0_indexOf_0f7a4_4_120 d _) ?_
  refine am_g 5 19 [some (.ref 20), some (.int 4), some (.int 120), some (.int 0)] [.int 0, .ref 20] (hG σ sr ln Lc μ) rfl ?_
  refine am_call (y := 73) (vs := [.ref 20, .int 0]) (rest := []) (v := (some (.int (σ 7 0)))) (h1 := (hG σ sr ln Lc μ)) rfl rfl rfl (sp_X9_byteAt_lo (σ := σ) (μ := μ) (d + 3) hT hT20 0 (by omega)) ?_
  refine am_g 2 25 [some (.ref 20), some (.int 4), some (.int 120), some (.int 0)] [.int ((σ 7 0) - 97)] (hG σ sr ln Lc μ) rfl ?_
  exact am_ret2 rfl rfl rfl rfl rfl
theorem sp_X9_letterOf_4_121 (d : Nat) {T : Nat} (hT : σ 8 0 = nI T) (hT20 : T ≤ 20) (hp : 2 < T) : am_X xs LL (d + 5) 79 [.ref 20, .int 4, .int 121] (hG σ sr ln Lc μ) (some (.int ((σ 7 2) - 97))) (hG σ sr ln Lc μ) := by
  refine am_XR (d := d + 4) (C := cd_X9_letterOf) (L := [some (.ref 20), some (.int 4), some (.int 121), none]) rfl rfl rfl rfl ?_
  refine am_g 1 1 [some (.ref 20), some (.int 4), some (.int 121), none] [.int 4] (hG σ sr ln Lc μ) rfl ?_
  refine am_call (y := 74) (vs := [.int 4]) (rest := []) (v := (some (.ref 4))) (h1 := (hG σ sr ln Lc μ)) rfl rfl rfl (sp_X9_formOf_4 (d + 3) _) ?_
  refine am_g 1 5 [some (.ref 20), some (.int 4), some (.int 121), none] [.int 121, .ref 4] (hG σ sr ln Lc μ) rfl ?_
  refine am_call (y := 214) (vs := [.ref 4, .int 121]) (rest := []) (v := (some (.int 2))) (h1 := (hG σ sr ln Lc μ)) rfl rfl rfl (sp_J0_indexOf_0f7a4_4_121 d _) ?_
  refine am_g 5 19 [some (.ref 20), some (.int 4), some (.int 121), some (.int 2)] [.int 2, .ref 20] (hG σ sr ln Lc μ) rfl ?_
  refine am_call (y := 73) (vs := [.ref 20, .int 2]) (rest := []) (v := (some (.int (σ 7 2)))) (h1 := (hG σ sr ln Lc μ)) rfl rfl rfl (sp_X9_byteAt_lo (σ := σ) (μ := μ) (d + 3) hT hT20 2 (by omega)) ?_
  refine am_g 2 25 [some (.ref 20), some (.int 4), some (.int 121), some (.int 2)] [.int ((σ 7 2) - 97)] (hG σ sr ln Lc μ) rfl ?_
  exact am_ret2 rfl rfl rfl rfl rfl
theorem sp_X9_letterOf_4_122 (d : Nat) {T : Nat} (hT : σ 8 0 = nI T) (hT20 : T ≤ 20) (hp : 6 < T) : am_X xs LL (d + 5) 79 [.ref 20, .int 4, .int 122] (hG σ sr ln Lc μ) (some (.int ((σ 7 6) - 97))) (hG σ sr ln Lc μ) := by
  refine am_XR (d := d + 4) (C := cd_X9_letterOf) (L := [some (.ref 20), some (.int 4), some (.int 122), none]) rfl rfl rfl rfl ?_
  refine am_g 1 1 [some (.ref 20), some (.int 4), some (.int 122), none] [.int 4] (hG σ sr ln Lc μ) rfl ?_
  refine am_call (y := 74) (vs := [.int 4]) (rest := []) (v := (some (.ref 4))) (h1 := (hG σ sr ln Lc μ)) rfl rfl rfl (sp_X9_formOf_4 (d + 3) _) ?_
  refine am_g 1 5 [some (.ref 20), some (.int 4), some (.int 122), none] [.int 122, .ref 4] (hG σ sr ln Lc μ) rfl ?_
  refine am_call (y := 214) (vs := [.ref 4, .int 122]) (rest := []) (v := (some (.int 6))) (h1 := (hG σ sr ln Lc μ)) rfl rfl rfl (sp_J0_indexOf_0f7a4_4_122 d _) ?_
  refine am_g 5 19 [some (.ref 20), some (.int 4), some (.int 122), some (.int 6)] [.int 6, .ref 20] (hG σ sr ln Lc μ) rfl ?_
  refine am_call (y := 73) (vs := [.ref 20, .int 6]) (rest := []) (v := (some (.int (σ 7 6)))) (h1 := (hG σ sr ln Lc μ)) rfl rfl rfl (sp_X9_byteAt_lo (σ := σ) (μ := μ) (d + 3) hT hT20 6 (by omega)) ?_
  refine am_g 2 25 [some (.ref 20), some (.int 4), some (.int 122), some (.int 6)] [.int ((σ 7 6) - 97)] (hG σ sr ln Lc μ) rfl ?_
  exact am_ret2 rfl rfl rfl rfl rfl
theorem sp_X9_numberOf_4 (d : Nat) {T : Nat} (hT : σ 8 0 = nI T) (hT20 : T ≤ 20) (hp : 4 < T) : am_X xs LL (d + 5) 80 [.ref 20, .int 4] (hG σ sr ln Lc μ) (some (.int ((σ 7 4) - 48))) (hG σ sr ln Lc μ) := by
  refine am_XR (d := d + 4) (C := cd_X9_numberOf) (L := [some (.ref 20), some (.int 4), none, none]) rfl rfl rfl rfl ?_
  refine am_g 1 1 [some (.ref 20), some (.int 4), none, none] [.int 4] (hG σ sr ln Lc μ) rfl ?_
  refine am_call (y := 74) (vs := [.int 4]) (rest := []) (v := (some (.ref 4))) (h1 := (hG σ sr ln Lc μ)) rfl rfl rfl (sp_X9_formOf_4 (d + 3) _) ?_
  refine am_g 3 8 [some (.ref 20), some (.int 4), some (.ref 4), none] [.int 55, .ref 4] (hG σ sr ln Lc μ) rfl ?_
  refine am_call (y := 214) (vs := [.ref 4, .int 55]) (rest := []) (v := (some (.int (-1)))) (h1 := (hG σ sr ln Lc μ)) rfl rfl rfl (sp_J0_indexOf_0f7a4_4_55 d _) ?_
  refine am_g 2 14 [some (.ref 20), some (.int 4), some (.ref 4), none] [.int 50, .ref 4, .int (-1)] (hG σ sr ln Lc μ) rfl ?_
  refine am_call (y := 214) (vs := [.ref 4, .int 50]) (rest := [.int (-1)]) (v := (some (.int 4))) (h1 := (hG σ sr ln Lc μ)) rfl rfl rfl (sp_J0_indexOf_0f7a4_4_50 d _) ?_
  refine am_g 6 31 [some (.ref 20), some (.int 4), some (.ref 4), some (.int 4)] [.int 4, .ref 20] (hG σ sr ln Lc μ) rfl ?_
  refine am_call (y := 73) (vs := [.ref 20, .int 4]) (rest := []) (v := (some (.int (σ 7 4)))) (h1 := (hG σ sr ln Lc μ)) rfl rfl rfl (sp_X9_byteAt_lo (σ := σ) (μ := μ) (d + 3) hT hT20 4 (by omega)) ?_
  refine am_g 2 37 [some (.ref 20), some (.int 4), some (.ref 4), some (.int 4)] [.int ((σ 7 4) - 48)] (hG σ sr ln Lc μ) rfl ?_
  exact am_ret2 rfl rfl rfl rfl rfl
theorem sp_X9_letterOf_5_120 (d : Nat) {T : Nat} (hT : σ 8 0 = nI T) (hT20 : T ≤ 20) (hp : 0 < T) : am_X xs LL (d + 5) 79 [.ref 20, .int 5, .int 120] (hG σ sr ln Lc μ) (some (.int ((σ 7 0) - 97))) (hG σ sr ln Lc μ) := by
  refine am_XR (d := d + 4) (C := cd_X9_letterOf) (L := [some (.ref 20), some (.int 5), some (.int 120), none]) rfl rfl rfl rfl ?_
  refine am_g 1 1 [some (.ref 20), some (.int 5), some (.int 120), none] [.int 5] (hG σ sr ln Lc μ) rfl ?_
  refine am_call (y := 74) (vs := [.int 5]) (rest := []) (v := (some (.ref 5))) (h1 := (hG σ sr ln Lc μ)) rfl rfl rfl (sp_X9_formOf_5 (d + 3) _) ?_
  refine am_g 1 5 [some (.ref 20), some (.int 5), some (.int 120), none] [.int 120, .ref 5] (hG σ sr ln Lc μ) rfl ?_
  refine am_call (y := 214) (vs := [.ref 5, .int 120]) (rest := []) (v := (some (.int 0))) (h1 := (hG σ sr ln Lc μ)) rfl rfl rfl (sp_J0_indexOf_0f7a4_5_120 d _) ?_
  refine am_g 5 19 [some (.ref 20), some (.int 5), some (.int 120), some (.int 0)] [.int 0, .ref 20] (hG σ sr ln Lc μ) rfl ?_
  refine am_call (y := 73) (vs := [.ref 20, .int 0]) (rest := []) (v := (some (.int (σ 7 0)))) (h1 := (hG σ sr ln Lc μ)) rfl rfl rfl (sp_X9_byteAt_lo (σ := σ) (μ := μ) (d + 3) hT hT20 0 (by omega)) ?_
  refine am_g 2 25 [some (.ref 20), some (.int 5), some (.int 120), some (.int 0)] [.int ((σ 7 0) - 97)] (hG σ sr ln Lc μ) rfl ?_
  exact am_ret2 rfl rfl rfl rfl rfl
theorem sp_X9_letterOf_5_121 (d : Nat) {T : Nat} (hT : σ 8 0 = nI T) (hT20 : T ≤ 20) : am_X xs LL (d + 5) 79 [.ref 20, .int 5, .int 121] (hG σ sr ln Lc μ) (some (.int (-1))) (hG σ sr ln Lc μ) := by
  refine am_XR (d := d + 4) (C := cd_X9_letterOf) (L := [some (.ref 20), some (.int 5), some (.int 121), none]) rfl rfl rfl rfl ?_
  refine am_g 1 1 [some (.ref 20), some (.int 5), some (.int 121), none] [.int 5] (hG σ sr ln Lc μ) rfl ?_
  refine am_call (y := 74) (vs := [.int 5]) (rest := []) (v := (some (.ref 5))) (h1 := (hG σ sr ln Lc μ)) rfl rfl rfl (sp_X9_formOf_5 (d + 3) _) ?_
  refine am_g 1 5 [some (.ref 20), some (.int 5), some (.int 121), none] [.int 121, .ref 5] (hG σ sr ln Lc μ) rfl ?_
  refine am_call (y := 214) (vs := [.ref 5, .int 121]) (rest := []) (v := (some (.int (-1)))) (h1 := (hG σ sr ln Lc μ)) rfl rfl rfl (sp_J0_indexOf_0f7a4_5_121 d _) ?_
  refine am_g 5 25 [some (.ref 20), some (.int 5), some (.int 121), some (.int (-1))] [.int (-1)] (hG σ sr ln Lc μ) rfl ?_
  exact am_ret2 rfl rfl rfl rfl rfl
theorem sp_X9_numberOf_5 (d : Nat) {T : Nat} (hT : σ 8 0 = nI T) (hT20 : T ≤ 20) (hp : 3 < T) : am_X xs LL (d + 5) 80 [.ref 20, .int 5] (hG σ sr ln Lc μ) (some (.int ((σ 7 3) - 48))) (hG σ sr ln Lc μ) := by
  refine am_XR (d := d + 4) (C := cd_X9_numberOf) (L := [some (.ref 20), some (.int 5), none, none]) rfl rfl rfl rfl ?_
  refine am_g 1 1 [some (.ref 20), some (.int 5), none, none] [.int 5] (hG σ sr ln Lc μ) rfl ?_
  refine am_call (y := 74) (vs := [.int 5]) (rest := []) (v := (some (.ref 5))) (h1 := (hG σ sr ln Lc μ)) rfl rfl rfl (sp_X9_formOf_5 (d + 3) _) ?_
  refine am_g 3 8 [some (.ref 20), some (.int 5), some (.ref 5), none] [.int 55, .ref 5] (hG σ sr ln Lc μ) rfl ?_
  refine am_call (y := 214) (vs := [.ref 5, .int 55]) (rest := []) (v := (some (.int 3))) (h1 := (hG σ sr ln Lc μ)) rfl rfl rfl (sp_J0_indexOf_0f7a4_5_55 d _) ?_
  refine am_g 2 14 [some (.ref 20), some (.int 5), some (.ref 5), none] [.int 50, .ref 5, .int 3] (hG σ sr ln Lc μ) rfl ?_
  refine am_call (y := 214) (vs := [.ref 5, .int 50]) (rest := [.int 3]) (v := (some (.int (-1)))) (h1 := (hG σ sr ln Lc μ)) rfl rfl rfl (sp_J0_indexOf_0f7a4_5_50 d _) ?_
  refine am_g 6 31 [some (.ref 20), some (.int 5), some (.ref 5), some (.int 3)] [.int 3, .ref 20] (hG σ sr ln Lc μ) rfl ?_
  refine am_call (y := 73) (vs := [.ref 20, .int 3]) (rest := []) (v := (some (.int (σ 7 3)))) (h1 := (hG σ sr ln Lc μ)) rfl rfl rfl (sp_X9_byteAt_lo (σ := σ) (μ := μ) (d + 3) hT hT20 3 (by omega)) ?_
  refine am_g 2 37 [some (.ref 20), some (.int 5), some (.ref 5), some (.int 3)] [.int ((σ 7 3) - 48)] (hG σ sr ln Lc μ) rfl ?_
  exact am_ret2 rfl rfl rfl rfl rfl
theorem sp_X3_hasRoomForObject_y (d : Nat) {O : Nat} (hO : σ 6 0 = nI O) (h : O < 16) : am_X xs LL (d + 1) 29 [.ref 15] (hG σ sr ln Lc μ) (some (.int 1)) (hG σ sr ln Lc μ) := by
  refine am_XR (d := d + 0) (C := cd_X3_hasRoomForObject) (L := [some (.ref 15)]) rfl rfl rfl rfl ?_
  refine am_g 2 4 [some (.ref 15)] [.int (σ 6 0)] (hG σ sr ln Lc μ) rfl ?_
  rw [show (σ 6 0) = (nI O) from hO]
  refine am_g 1 (if (nI O) < 0 then 23 else 7) [some (.ref 15)] [] (hG σ sr ln Lc μ) rfl ?_
  rw [if_neg (show ¬ (nI O) < 0 from (am_dnlt (a := O) (b := 0) (rfl) (rfl) (by omega) (by omega) (by omega)))]
  refine am_g 2 11 [some (.ref 15)] [.int (σ 6 0)] (hG σ sr ln Lc μ) rfl ?_
  rw [show (σ 6 0) = (nI O) from hO]
  refine am_g 4 (if 16 ≤ (nI O) then 23 else 19) [some (.ref 15)] [] (hG σ sr ln Lc μ) rfl ?_
  rw [if_neg (show ¬ 16 ≤ (nI O) from (am_dnle (a := 16) (b := O) (rfl) (rfl) (by omega) (by omega) (by omega)))]
  refine am_g 2 24 [some (.ref 15)] [.int 1] (hG σ sr ln Lc μ) rfl ?_
  exact am_ret2 rfl rfl rfl rfl rfl
theorem sp_X3_hasRoomForObject_n (d : Nat) {O : Nat} (hO : σ 6 0 = nI O) (h : O = 16) : am_X xs LL (d + 1) 29 [.ref 15] (hG σ sr ln Lc μ) (some (.int 0)) (hG σ sr ln Lc μ) := by
  refine am_XR (d := d + 0) (C := cd_X3_hasRoomForObject) (L := [some (.ref 15)]) rfl rfl rfl rfl ?_
  refine am_g 2 4 [some (.ref 15)] [.int (σ 6 0)] (hG σ sr ln Lc μ) rfl ?_
  rw [show (σ 6 0) = 16 from (by rw [hO, h]; rfl)]
  refine am_g 3 11 [some (.ref 15)] [.int (σ 6 0)] (hG σ sr ln Lc μ) rfl ?_
  rw [show (σ 6 0) = 16 from (by rw [hO, h]; rfl)]
  refine am_g 5 24 [some (.ref 15)] [.int 0] (hG σ sr ln Lc μ) rfl ?_
  exact am_ret2 rfl rfl rfl rfl rfl
end TS
