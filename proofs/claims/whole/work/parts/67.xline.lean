/-! the line of the tape -/
section LT
variable {xs : Nat → Int32} {LL : Nat} {σ μ : Nat → Nat → Int32} {sr : Nat → Nat} {ln : Nat → Nat → Int32} {Lc : Nat}
theorem sp_X11_lineOfTape_0 (d : Nat) {T : Nat} (hT : σ 8 0 = nI T) (hT20 : T ≤ 20) (hlen : 3 = T) : am_X xs LL (d + 6) 130 [.ref 14, .int 0] (hG σ sr ln Lc μ) (some (.ref (75 + Lc))) (hXC σ Lc μ (((List.range Lc).map (hLn sr ln)) ++ [.inr (2, [.int ((σ 7 0) - 97), .int ((σ 7 2) - 97), .int (-1), .int 0, .int 0, .int (-1), .int 1])])) := by
  have hcs : ((List.range Lc).map (hLn sr ln)).length = Lc := by rw [List.length_map, List.length_range]
  refine am_XR (d := d + 5) (C := cd_X11_lineOfTape) (L := [some (.ref 14), some (.int 0), none, none, none]) rfl rfl rfl rfl ?_
  refine am_g 4 7 [some (.ref 14), some (.int 0), none, none, none] [.int 120, .int 0, .ref 20] (hG σ sr ln Lc μ) rfl ?_
  refine am_call (y := 79) (vs := [.ref 20, .int 0, .int 120]) (rest := []) (v := (some (.int ((σ 7 0) - 97)))) (h1 := (hG σ sr ln Lc μ)) rfl rfl rfl (sp_X9_letterOf_0_120 d hT hT20 (by omega)) ?_
  refine am_g 5 18 [some (.ref 14), some (.int 0), some (.int ((σ 7 0) - 97)), none, none] [.int 121, .int 0, .ref 20] (hG σ sr ln Lc μ) rfl ?_
  refine am_call (y := 79) (vs := [.ref 20, .int 0, .int 121]) (rest := []) (v := (some (.int ((σ 7 2) - 97)))) (h1 := (hG σ sr ln Lc μ)) rfl rfl rfl (sp_X9_letterOf_0_121 d hT hT20 (by omega)) ?_
  refine am_g 4 27 [some (.ref 14), some (.int 0), some (.int ((σ 7 0) - 97)), some (.int ((σ 7 2) - 97)), none] [.int 0, .ref 20] (hG σ sr ln Lc μ) rfl ?_
  refine am_call (y := 80) (vs := [.ref 20, .int 0]) (rest := []) (v := (some (.int (-1)))) (h1 := (hG σ sr ln Lc μ)) rfl rfl rfl (sp_X9_numberOf_0 d hT hT20) ?_
  refine am_g 3 146 [some (.ref 14), some (.int 0), some (.int ((σ 7 0) - 97)), some (.int ((σ 7 2) - 97)), some (.int (-1))] [] (hG σ sr ln Lc μ) rfl ?_
  refine am_newR (cs := ((List.range Lc).map (hLn sr ln))) (n := Lc) hcs rfl ?_
  refine am_g 4 153 [some (.ref 14), some (.int 0), some (.int ((σ 7 0) - 97)), some (.int ((σ 7 2) - 97)), some (.int (-1))] [.int (-1), .int ((σ 7 2) - 97), .int ((σ 7 0) - 97), .ref (75 + Lc), .ref (75 + Lc)] (hXC σ Lc μ (((List.range Lc).map (hLn sr ln)) ++ [.inr (2, [.int 0, .int 0, .int 0, .int 0, .int 0, .int 0, .int 0])])) rfl ?_
  refine am_call (y := 12) (vs := [.ref (75 + Lc), .int ((σ 7 0) - 97), .int ((σ 7 2) - 97), .int (-1)]) (rest := [.ref (75 + Lc)]) (v := none) (h1 := (hXC σ Lc μ (((List.range Lc).map (hLn sr ln)) ++ [.inr (2, [.int ((σ 7 0) - 97), .int ((σ 7 2) - 97), .int (-1), .int 0, .int 0, .int (-1), .int 1])]))) rfl rfl (am_tgtN hcs rfl rfl rfl rfl) (sp_X2_init_0 (d + 4) Lc hcs ((σ 7 0) - 97) ((σ 7 2) - 97) (-1)) ?_
  exact am_ret2 rfl rfl rfl rfl rfl
theorem sp_X11_lineOfTape_1 (d : Nat) {T : Nat} (hT : σ 8 0 = nI T) (hT20 : T ≤ 20) (hlen : 5 = T) : am_X xs LL (d + 6) 130 [.ref 14, .int 1] (hG σ sr ln Lc μ) (some (.ref (75 + Lc))) (hXC σ Lc μ (((List.range Lc).map (hLn sr ln)) ++ [.inr (1, [.int ((σ 7 0) - 97), .int ((σ 7 2) - 97), .int ((σ 7 4) - 48), .int 0, .int 0, .int (-1), .int 1])])) := by
  have hcs : ((List.range Lc).map (hLn sr ln)).length = Lc := by rw [List.length_map, List.length_range]
  refine am_XR (d := d + 5) (C := cd_X11_lineOfTape) (L := [some (.ref 14), some (.int 1), none, none, none]) rfl rfl rfl rfl ?_
  refine am_g 4 7 [some (.ref 14), some (.int 1), none, none, none] [.int 120, .int 1, .ref 20] (hG σ sr ln Lc μ) rfl ?_
  refine am_call (y := 79) (vs := [.ref 20, .int 1, .int 120]) (rest := []) (v := (some (.int ((σ 7 0) - 97)))) (h1 := (hG σ sr ln Lc μ)) rfl rfl rfl (sp_X9_letterOf_1_120 d hT hT20 (by omega)) ?_
  refine am_g 5 18 [some (.ref 14), some (.int 1), some (.int ((σ 7 0) - 97)), none, none] [.int 121, .int 1, .ref 20] (hG σ sr ln Lc μ) rfl ?_
  refine am_call (y := 79) (vs := [.ref 20, .int 1, .int 121]) (rest := []) (v := (some (.int ((σ 7 2) - 97)))) (h1 := (hG σ sr ln Lc μ)) rfl rfl rfl (sp_X9_letterOf_1_121 d hT hT20 (by omega)) ?_
  refine am_g 4 27 [some (.ref 14), some (.int 1), some (.int ((σ 7 0) - 97)), some (.int ((σ 7 2) - 97)), none] [.int 1, .ref 20] (hG σ sr ln Lc μ) rfl ?_
  refine am_call (y := 80) (vs := [.ref 20, .int 1]) (rest := []) (v := (some (.int ((σ 7 4) - 48)))) (h1 := (hG σ sr ln Lc μ)) rfl rfl rfl (sp_X9_numberOf_1 d hT hT20 (by omega)) ?_
  refine am_g 3 68 [some (.ref 14), some (.int 1), some (.int ((σ 7 0) - 97)), some (.int ((σ 7 2) - 97)), some (.int ((σ 7 4) - 48))] [] (hG σ sr ln Lc μ) rfl ?_
  refine am_newR (cs := ((List.range Lc).map (hLn sr ln))) (n := Lc) hcs rfl ?_
  refine am_g 4 76 [some (.ref 14), some (.int 1), some (.int ((σ 7 0) - 97)), some (.int ((σ 7 2) - 97)), some (.int ((σ 7 4) - 48))] [.int ((σ 7 4) - 48), .int ((σ 7 2) - 97), .int ((σ 7 0) - 97), .ref (75 + Lc), .ref (75 + Lc)] (hXC σ Lc μ (((List.range Lc).map (hLn sr ln)) ++ [.inr (1, [.int 0, .int 0, .int 0, .int 0, .int 0, .int 0, .int 0])])) rfl ?_
  refine am_call (y := 7) (vs := [.ref (75 + Lc), .int ((σ 7 0) - 97), .int ((σ 7 2) - 97), .int ((σ 7 4) - 48)]) (rest := [.ref (75 + Lc)]) (v := none) (h1 := (hXC σ Lc μ (((List.range Lc).map (hLn sr ln)) ++ [.inr (1, [.int ((σ 7 0) - 97), .int ((σ 7 2) - 97), .int ((σ 7 4) - 48), .int 0, .int 0, .int (-1), .int 1])]))) rfl rfl (am_tgtN hcs rfl rfl rfl rfl) (sp_X1_init_1 (d + 3) Lc hcs ((σ 7 0) - 97) ((σ 7 2) - 97) ((σ 7 4) - 48)) ?_
  exact am_ret2 rfl rfl rfl rfl rfl
theorem sp_X11_lineOfTape_2 (d : Nat) {T : Nat} (hT : σ 8 0 = nI T) (hT20 : T ≤ 20) (hlen : 5 = T) : am_X xs LL (d + 6) 130 [.ref 14, .int 2] (hG σ sr ln Lc μ) (some (.ref (75 + Lc))) (hXC σ Lc μ (((List.range Lc).map (hLn sr ln)) ++ [.inr (6, [.int ((σ 7 0) - 97), .int ((σ 7 2) - 97), .int ((σ 7 4) - 48), .int 0, .int 0, .int (-1), .int 1])])) := by
  have hcs : ((List.range Lc).map (hLn sr ln)).length = Lc := by rw [List.length_map, List.length_range]
  refine am_XR (d := d + 5) (C := cd_X11_lineOfTape) (L := [some (.ref 14), some (.int 2), none, none, none]) rfl rfl rfl rfl ?_
  refine am_g 4 7 [some (.ref 14), some (.int 2), none, none, none] [.int 120, .int 2, .ref 20] (hG σ sr ln Lc μ) rfl ?_
  refine am_call (y := 79) (vs := [.ref 20, .int 2, .int 120]) (rest := []) (v := (some (.int ((σ 7 0) - 97)))) (h1 := (hG σ sr ln Lc μ)) rfl rfl rfl (sp_X9_letterOf_2_120 d hT hT20 (by omega)) ?_
  refine am_g 5 18 [some (.ref 14), some (.int 2), some (.int ((σ 7 0) - 97)), none, none] [.int 121, .int 2, .ref 20] (hG σ sr ln Lc μ) rfl ?_
  refine am_call (y := 79) (vs := [.ref 20, .int 2, .int 121]) (rest := []) (v := (some (.int ((σ 7 2) - 97)))) (h1 := (hG σ sr ln Lc μ)) rfl rfl rfl (sp_X9_letterOf_2_121 d hT hT20 (by omega)) ?_
  refine am_g 4 27 [some (.ref 14), some (.int 2), some (.int ((σ 7 0) - 97)), some (.int ((σ 7 2) - 97)), none] [.int 2, .ref 20] (hG σ sr ln Lc μ) rfl ?_
  refine am_call (y := 80) (vs := [.ref 20, .int 2]) (rest := []) (v := (some (.int ((σ 7 4) - 48)))) (h1 := (hG σ sr ln Lc μ)) rfl rfl rfl (sp_X9_numberOf_2 d hT hT20 (by omega)) ?_
  refine am_g 3 80 [some (.ref 14), some (.int 2), some (.int ((σ 7 0) - 97)), some (.int ((σ 7 2) - 97)), some (.int ((σ 7 4) - 48))] [] (hG σ sr ln Lc μ) rfl ?_
  refine am_newR (cs := ((List.range Lc).map (hLn sr ln))) (n := Lc) hcs rfl ?_
  refine am_g 4 88 [some (.ref 14), some (.int 2), some (.int ((σ 7 0) - 97)), some (.int ((σ 7 2) - 97)), some (.int ((σ 7 4) - 48))] [.int ((σ 7 4) - 48), .int ((σ 7 2) - 97), .int ((σ 7 0) - 97), .ref (75 + Lc), .ref (75 + Lc)] (hXC σ Lc μ (((List.range Lc).map (hLn sr ln)) ++ [.inr (6, [.int 0, .int 0, .int 0, .int 0, .int 0, .int 0, .int 0])])) rfl ?_
  refine am_call (y := 45) (vs := [.ref (75 + Lc), .int ((σ 7 0) - 97), .int ((σ 7 2) - 97), .int ((σ 7 4) - 48)]) (rest := [.ref (75 + Lc)]) (v := none) (h1 := (hXC σ Lc μ (((List.range Lc).map (hLn sr ln)) ++ [.inr (6, [.int ((σ 7 0) - 97), .int ((σ 7 2) - 97), .int ((σ 7 4) - 48), .int 0, .int 0, .int (-1), .int 1])]))) rfl rfl (am_tgtN hcs rfl rfl rfl rfl) (sp_X6_init_2 (d + 3) Lc hcs ((σ 7 0) - 97) ((σ 7 2) - 97) ((σ 7 4) - 48)) ?_
  exact am_ret2 rfl rfl rfl rfl rfl
theorem sp_X11_lineOfTape_3 (d : Nat) {T : Nat} (hT : σ 8 0 = nI T) (hT20 : T ≤ 20) (hlen : 5 = T) : am_X xs LL (d + 6) 130 [.ref 14, .int 3] (hG σ sr ln Lc μ) (some (.ref (75 + Lc))) (hXC σ Lc μ (((List.range Lc).map (hLn sr ln)) ++ [.inr (10, [.int ((σ 7 0) - 97), .int ((σ 7 4) - 97), .int ((σ 7 2) - 48), .int 0, .int 0, .int (-1), .int 1])])) := by
  have hcs : ((List.range Lc).map (hLn sr ln)).length = Lc := by rw [List.length_map, List.length_range]
  refine am_XR (d := d + 5) (C := cd_X11_lineOfTape) (L := [some (.ref 14), some (.int 3), none, none, none]) rfl rfl rfl rfl ?_
  refine am_g 4 7 [some (.ref 14), some (.int 3), none, none, none] [.int 120, .int 3, .ref 20] (hG σ sr ln Lc μ) rfl ?_
  refine am_call (y := 79) (vs := [.ref 20, .int 3, .int 120]) (rest := []) (v := (some (.int ((σ 7 0) - 97)))) (h1 := (hG σ sr ln Lc μ)) rfl rfl rfl (sp_X9_letterOf_3_120 d hT hT20 (by omega)) ?_
  refine am_g 5 18 [some (.ref 14), some (.int 3), some (.int ((σ 7 0) - 97)), none, none] [.int 121, .int 3, .ref 20] (hG σ sr ln Lc μ) rfl ?_
  refine am_call (y := 79) (vs := [.ref 20, .int 3, .int 121]) (rest := []) (v := (some (.int ((σ 7 4) - 97)))) (h1 := (hG σ sr ln Lc μ)) rfl rfl rfl (sp_X9_letterOf_3_121 d hT hT20 (by omega)) ?_
  refine am_g 4 27 [some (.ref 14), some (.int 3), some (.int ((σ 7 0) - 97)), some (.int ((σ 7 4) - 97)), none] [.int 3, .ref 20] (hG σ sr ln Lc μ) rfl ?_
  refine am_call (y := 80) (vs := [.ref 20, .int 3]) (rest := []) (v := (some (.int ((σ 7 2) - 48)))) (h1 := (hG σ sr ln Lc μ)) rfl rfl rfl (sp_X9_numberOf_3 d hT hT20 (by omega)) ?_
  refine am_g 3 92 [some (.ref 14), some (.int 3), some (.int ((σ 7 0) - 97)), some (.int ((σ 7 4) - 97)), some (.int ((σ 7 2) - 48))] [] (hG σ sr ln Lc μ) rfl ?_
  refine am_newR (cs := ((List.range Lc).map (hLn sr ln))) (n := Lc) hcs rfl ?_
  refine am_g 4 100 [some (.ref 14), some (.int 3), some (.int ((σ 7 0) - 97)), some (.int ((σ 7 4) - 97)), some (.int ((σ 7 2) - 48))] [.int ((σ 7 4) - 97), .int ((σ 7 2) - 48), .int ((σ 7 0) - 97), .ref (75 + Lc), .ref (75 + Lc)] (hXC σ Lc μ (((List.range Lc).map (hLn sr ln)) ++ [.inr (10, [.int 0, .int 0, .int 0, .int 0, .int 0, .int 0, .int 0])])) rfl ?_
  refine am_call (y := 81) (vs := [.ref (75 + Lc), .int ((σ 7 0) - 97), .int ((σ 7 2) - 48), .int ((σ 7 4) - 97)]) (rest := [.ref (75 + Lc)]) (v := none) (h1 := (hXC σ Lc μ (((List.range Lc).map (hLn sr ln)) ++ [.inr (10, [.int ((σ 7 0) - 97), .int ((σ 7 4) - 97), .int ((σ 7 2) - 48), .int 0, .int 0, .int (-1), .int 1])]))) rfl rfl (am_tgtN hcs rfl rfl rfl rfl) (sp_X10_init_3 (d + 2) Lc hcs ((σ 7 0) - 97) ((σ 7 4) - 97) ((σ 7 2) - 48)) ?_
  exact am_ret2 rfl rfl rfl rfl rfl
theorem sp_X11_lineOfTape_4 (d : Nat) {T : Nat} (hT : σ 8 0 = nI T) (hT20 : T ≤ 20) (hlen : 8 = T) : am_X xs LL (d + 6) 130 [.ref 14, .int 4] (hG σ sr ln Lc μ) (some (.ref (75 + Lc))) (hXC σ Lc μ (((List.range Lc).map (hLn sr ln)) ++ [.inr (0, [.int ((σ 7 0) - 97), .int ((σ 7 2) - 97), .int ((σ 7 4) - 48), .int 0, .int 0, .int (-1), .int 1, .int ((σ 7 6) - 97)])])) := by
  have hcs : ((List.range Lc).map (hLn sr ln)).length = Lc := by rw [List.length_map, List.length_range]
  refine am_XR (d := d + 5) (C := cd_X11_lineOfTape) (L := [some (.ref 14), some (.int 4), none, none, none]) rfl rfl rfl rfl ?_
  refine am_g 4 7 [some (.ref 14), some (.int 4), none, none, none] [.int 120, .int 4, .ref 20] (hG σ sr ln Lc μ) rfl ?_
  refine am_call (y := 79) (vs := [.ref 20, .int 4, .int 120]) (rest := []) (v := (some (.int ((σ 7 0) - 97)))) (h1 := (hG σ sr ln Lc μ)) rfl rfl rfl (sp_X9_letterOf_4_120 d hT hT20 (by omega)) ?_
  refine am_g 5 18 [some (.ref 14), some (.int 4), some (.int ((σ 7 0) - 97)), none, none] [.int 121, .int 4, .ref 20] (hG σ sr ln Lc μ) rfl ?_
  refine am_call (y := 79) (vs := [.ref 20, .int 4, .int 121]) (rest := []) (v := (some (.int ((σ 7 2) - 97)))) (h1 := (hG σ sr ln Lc μ)) rfl rfl rfl (sp_X9_letterOf_4_121 d hT hT20 (by omega)) ?_
  refine am_g 4 27 [some (.ref 14), some (.int 4), some (.int ((σ 7 0) - 97)), some (.int ((σ 7 2) - 97)), none] [.int 4, .ref 20] (hG σ sr ln Lc μ) rfl ?_
  refine am_call (y := 80) (vs := [.ref 20, .int 4]) (rest := []) (v := (some (.int ((σ 7 4) - 48)))) (h1 := (hG σ sr ln Lc μ)) rfl rfl rfl (sp_X9_numberOf_4 d hT hT20 (by omega)) ?_
  refine am_g 3 104 [some (.ref 14), some (.int 4), some (.int ((σ 7 0) - 97)), some (.int ((σ 7 2) - 97)), some (.int ((σ 7 4) - 48))] [] (hG σ sr ln Lc μ) rfl ?_
  refine am_newR (cs := ((List.range Lc).map (hLn sr ln))) (n := Lc) hcs rfl ?_
  refine am_g 8 119 [some (.ref 14), some (.int 4), some (.int ((σ 7 0) - 97)), some (.int ((σ 7 2) - 97)), some (.int ((σ 7 4) - 48))] [.int 122, .int 4, .ref 20, .int ((σ 7 4) - 48), .int ((σ 7 2) - 97), .int ((σ 7 0) - 97), .ref (75 + Lc), .ref (75 + Lc)] (hXC σ Lc μ (((List.range Lc).map (hLn sr ln)) ++ [.inr (0, [.int 0, .int 0, .int 0, .int 0, .int 0, .int 0, .int 0, .int 0])])) rfl ?_
  refine am_call (y := 79) (vs := [.ref 20, .int 4, .int 122]) (rest := [.int ((σ 7 4) - 48), .int ((σ 7 2) - 97), .int ((σ 7 0) - 97), .ref (75 + Lc), .ref (75 + Lc)]) (v := (some (.int ((σ 7 6) - 97)))) (h1 := (hXC σ Lc μ (((List.range Lc).map (hLn sr ln)) ++ [.inr (0, [.int 0, .int 0, .int 0, .int 0, .int 0, .int 0, .int 0, .int 0])]))) rfl rfl rfl (sp_X9_letterOf_x122 d hT hT20 (by omega)) ?_
  refine am_call (y := 0) (vs := [.ref (75 + Lc), .int ((σ 7 0) - 97), .int ((σ 7 2) - 97), .int ((σ 7 4) - 48), .int ((σ 7 6) - 97)]) (rest := [.ref (75 + Lc)]) (v := none) (h1 := (hXC σ Lc μ (((List.range Lc).map (hLn sr ln)) ++ [.inr (0, [.int ((σ 7 0) - 97), .int ((σ 7 2) - 97), .int ((σ 7 4) - 48), .int 0, .int 0, .int (-1), .int 1, .int ((σ 7 6) - 97)])]))) rfl rfl (am_tgtN hcs rfl rfl rfl rfl) (sp_X0_init_4 (d + 2) Lc hcs ((σ 7 0) - 97) ((σ 7 2) - 97) ((σ 7 4) - 48) ((σ 7 6) - 97)) ?_
  exact am_ret2 rfl rfl rfl rfl rfl
theorem sp_X11_lineOfTape_5 (d : Nat) {T : Nat} (hT : σ 8 0 = nI T) (hT20 : T ≤ 20) (hlen : 4 = T) {O : Nat} (hO : σ 6 0 = nI O) (hO16 : O < 16) : am_X xs LL (d + 6) 130 [.ref 14, .int 5] (hG σ sr ln Lc μ) (some (.ref (75 + Lc))) (hXC (am_us (am_up σ 4 (upd (σ 4) O ((σ 7 3) - 48))) 6 (nI (O + 1))) Lc μ (((List.range Lc).map (hLn sr ln)) ++ [.inr (5, [.int ((σ 7 0) - 97), .int (-1), .int ((σ 7 3) - 48), .int 0, .int 0, .int (-1), .int 1, .int (nI O)])])) := by
  have hcs : ((List.range Lc).map (hLn sr ln)).length = Lc := by rw [List.length_map, List.length_range]
  refine am_XR (d := d + 5) (C := cd_X11_lineOfTape) (L := [some (.ref 14), some (.int 5), none, none, none]) rfl rfl rfl rfl ?_
  refine am_g 4 7 [some (.ref 14), some (.int 5), none, none, none] [.int 120, .int 5, .ref 20] (hG σ sr ln Lc μ) rfl ?_
  refine am_call (y := 79) (vs := [.ref 20, .int 5, .int 120]) (rest := []) (v := (some (.int ((σ 7 0) - 97)))) (h1 := (hG σ sr ln Lc μ)) rfl rfl rfl (sp_X9_letterOf_5_120 d hT hT20 (by omega)) ?_
  refine am_g 5 18 [some (.ref 14), some (.int 5), some (.int ((σ 7 0) - 97)), none, none] [.int 121, .int 5, .ref 20] (hG σ sr ln Lc μ) rfl ?_
  refine am_call (y := 79) (vs := [.ref 20, .int 5, .int 121]) (rest := []) (v := (some (.int (-1)))) (h1 := (hG σ sr ln Lc μ)) rfl rfl rfl (sp_X9_letterOf_5_121 d hT hT20) ?_
  refine am_g 4 27 [some (.ref 14), some (.int 5), some (.int ((σ 7 0) - 97)), some (.int (-1)), none] [.int 5, .ref 20] (hG σ sr ln Lc μ) rfl ?_
  refine am_call (y := 80) (vs := [.ref 20, .int 5]) (rest := []) (v := (some (.int ((σ 7 3) - 48)))) (h1 := (hG σ sr ln Lc μ)) rfl rfl rfl (sp_X9_numberOf_5 d hT hT20 (by omega)) ?_
  refine am_g 3 126 [some (.ref 14), some (.int 5), some (.int ((σ 7 0) - 97)), some (.int (-1)), some (.int ((σ 7 3) - 48))] [] (hG σ sr ln Lc μ) rfl ?_
  refine am_newR (cs := ((List.range Lc).map (hLn sr ln))) (n := Lc) hcs rfl ?_
  refine am_g 6 139 [some (.ref 14), some (.int 5), some (.int ((σ 7 0) - 97)), some (.int (-1)), some (.int ((σ 7 3) - 48))] [.int ((σ 7 3) - 48), .ref 15, .int ((σ 7 3) - 48), .int ((σ 7 0) - 97), .ref (75 + Lc), .ref (75 + Lc)] (hXC σ Lc μ (((List.range Lc).map (hLn sr ln)) ++ [.inr (5, [.int 0, .int 0, .int 0, .int 0, .int 0, .int 0, .int 0, .int 0])])) rfl ?_
  refine am_call (y := 30) (vs := [.ref 15, .int ((σ 7 3) - 48)]) (rest := [.int ((σ 7 3) - 48), .int ((σ 7 0) - 97), .ref (75 + Lc), .ref (75 + Lc)]) (v := (some (.int (nI O)))) (h1 := (hXC (am_us (am_up σ 4 (upd (σ 4) O ((σ 7 3) - 48))) 6 (nI (O + 1))) Lc μ (((List.range Lc).map (hLn sr ln)) ++ [.inr (5, [.int 0, .int 0, .int 0, .int 0, .int 0, .int 0, .int 0, .int 0])]))) rfl rfl rfl (sp_X3_makeObject_x (d + 3) hO hO16 ((σ 7 3) - 48)) ?_
  refine am_call (y := 40) (vs := [.ref (75 + Lc), .int ((σ 7 0) - 97), .int ((σ 7 3) - 48), .int (nI O)]) (rest := [.ref (75 + Lc)]) (v := none) (h1 := (hXC (am_us (am_up σ 4 (upd (σ 4) O ((σ 7 3) - 48))) 6 (nI (O + 1))) Lc μ (((List.range Lc).map (hLn sr ln)) ++ [.inr (5, [.int ((σ 7 0) - 97), .int (-1), .int ((σ 7 3) - 48), .int 0, .int 0, .int (-1), .int 1, .int (nI O)])]))) rfl rfl (am_tgtN hcs rfl rfl rfl rfl) (sp_X5_init_5 (d + 3) Lc hcs ((σ 7 0) - 97) ((σ 7 3) - 48) (nI O)) ?_
  exact am_ret2 rfl rfl rfl rfl rfl
end LT
