/-! the reference: line, when read has been run -/
section RLN
variable {xs : Nat → Int32} {LL : Nat} {σ μ μ2 : Nat → Nat → Int32} {sr : Nat → Nat} {ln : Nat → Nat → Int32} {Lc : Nat}
theorem sp_X12_line_flt (d : Nat) (t k : Nat) (ht : t < 3) (hk : k < 4) {N : Nat} (hr : ∀ d, am_X xs LL (d + 4) 160 [.ref 47, .int (nI N)] (hG σ sr ln Lc μ) none (hG σ sr ln Lc μ2)) (hL : μ 17 0 = nI N) (hLc : N < 40) (h23 : μ2 23 0 = 1) {A : Nat} (h22 : μ2 22 0 = nI A) : am_X xs LL (d + 5) 162 [.ref 47, .int (nI t), .int (nI k)] (hG σ sr ln Lc μ) (some (.int (-100 - (nI A)))) (hG σ sr ln Lc (am_us μ2 21 0)) := by
  refine am_XR (d := d + 4) (C := cd_X12_line) (L := [some (.ref 47), some (.int (nI t)), some (.int (nI k))]) rfl rfl rfl rfl ?_
  refine am_g 4 6 [some (.ref 47), some (.int (nI t)), some (.int (nI k))] [.long 2, .long 0, .long ((nI t).toInt64)] (hG σ sr ln Lc μ) rfl ?_
  refine am_call (y := 140) (vs := [.long ((nI t).toInt64), .long 0, .long 2]) (rest := []) (v := (some (.int 1))) (h1 := (hG σ sr ln Lc μ)) rfl rfl rfl (sp_X12_in_b (d + 3) _ _ _ _ ((am_in64c (x := nI t) (n := 3) (c := 2) rfl).trans (am_in_of_nI ht (by omega)))) ?_
  refine am_g 5 18 [some (.ref 47), some (.int (nI t)), some (.int (nI k))] [.long 3, .long 0, .long ((nI k).toInt64)] (hG σ sr ln Lc μ) rfl ?_
  refine am_call (y := 140) (vs := [.long ((nI k).toInt64), .long 0, .long 3]) (rest := []) (v := (some (.int 1))) (h1 := (hG σ sr ln Lc μ)) rfl rfl rfl (sp_X12_in_b (d + 3) _ _ _ _ ((am_in64c (x := nI k) (n := 4) (c := 3) rfl).trans (am_in_of_nI hk (by omega)))) ?_
  refine am_g 3 31 [some (.ref 47), some (.int (nI t)), some (.int (nI k))] [.int (μ 17 0)] (hG σ sr ln Lc μ) rfl ?_
  rw [show (μ 17 0) = (nI N) from hL]
  refine am_g 2 (if (nI N) = 40 then 36 else 39) [some (.ref 47), some (.int (nI t)), some (.int (nI k))] [] (hG σ sr ln Lc μ) rfl ?_
  rw [if_neg (show ¬ (nI N) = 40 from (am_dne (a := N) (b := 40) (rfl) (rfl) (by omega) (by omega) (by omega)))]
  refine am_g 3 44 [some (.ref 47), some (.int (nI t)), some (.int (nI k))] [.int (μ 17 0), .ref 47] (hG σ sr ln Lc μ) rfl ?_
  rw [show (μ 17 0) = (nI N) from hL]
  refine am_call (y := 160) (vs := [.ref 47, .int (nI N)]) (rest := []) (v := none) (h1 := (hG σ sr ln Lc μ2)) rfl rfl rfl (hr d) ?_
  refine am_g 2 51 [some (.ref 47), some (.int (nI t)), some (.int (nI k))] [.int (μ2 23 0)] (hG σ sr ln Lc μ2) rfl ?_
  rw [show (μ2 23 0) = 1 from h23]
  refine am_g 7 65 [some (.ref 47), some (.int (nI t)), some (.int (nI k))] [.int (μ2 22 0), .int (-100)] (hG σ sr ln Lc (am_us μ2 21 0)) rfl ?_
  rw [show (μ2 22 0) = (nI A) from h22]
  refine am_g 1 66 [some (.ref 47), some (.int (nI t)), some (.int (nI k))] [.int ((-100) - (nI A))] (hG σ sr ln Lc (am_us μ2 21 0)) rfl ?_
  exact am_ret2 rfl rfl rfl rfl rfl
theorem sp_X12_line_room (d : Nat) (t k : Nat) (ht : t < 3) (hk : k < 4) {N : Nat} (hr : ∀ d, am_X xs LL (d + 4) 160 [.ref 47, .int (nI N)] (hG σ sr ln Lc μ) none (hG σ sr ln Lc μ2)) (hL : μ 17 0 = nI N) (hLc : N < 40) (h23 : μ2 23 0 = 0) (hL2 : μ2 17 0 = nI N) {s : Nat} (hs6 : s < 6) (h7 : μ2 7 N = nI s) (hs : s = 5) {O : Nat} (hO : μ2 19 0 = nI O) (hO16 : O = 16) : am_X xs LL (d + 5) 162 [.ref 47, .int (nI t), .int (nI k)] (hG σ sr ln Lc μ) (some (.int (-4))) (hG σ sr ln Lc μ2) := by
  refine am_XR (d := d + 4) (C := cd_X12_line) (L := [some (.ref 47), some (.int (nI t)), some (.int (nI k))]) rfl rfl rfl rfl ?_
  refine am_g 4 6 [some (.ref 47), some (.int (nI t)), some (.int (nI k))] [.long 2, .long 0, .long ((nI t).toInt64)] (hG σ sr ln Lc μ) rfl ?_
  refine am_call (y := 140) (vs := [.long ((nI t).toInt64), .long 0, .long 2]) (rest := []) (v := (some (.int 1))) (h1 := (hG σ sr ln Lc μ)) rfl rfl rfl (sp_X12_in_b (d + 3) _ _ _ _ ((am_in64c (x := nI t) (n := 3) (c := 2) rfl).trans (am_in_of_nI ht (by omega)))) ?_
  refine am_g 5 18 [some (.ref 47), some (.int (nI t)), some (.int (nI k))] [.long 3, .long 0, .long ((nI k).toInt64)] (hG σ sr ln Lc μ) rfl ?_
  refine am_call (y := 140) (vs := [.long ((nI k).toInt64), .long 0, .long 3]) (rest := []) (v := (some (.int 1))) (h1 := (hG σ sr ln Lc μ)) rfl rfl rfl (sp_X12_in_b (d + 3) _ _ _ _ ((am_in64c (x := nI k) (n := 4) (c := 3) rfl).trans (am_in_of_nI hk (by omega)))) ?_
  refine am_g 3 31 [some (.ref 47), some (.int (nI t)), some (.int (nI k))] [.int (μ 17 0)] (hG σ sr ln Lc μ) rfl ?_
  rw [show (μ 17 0) = (nI N) from hL]
  refine am_g 2 (if (nI N) = 40 then 36 else 39) [some (.ref 47), some (.int (nI t)), some (.int (nI k))] [] (hG σ sr ln Lc μ) rfl ?_
  rw [if_neg (show ¬ (nI N) = 40 from (am_dne (a := N) (b := 40) (rfl) (rfl) (by omega) (by omega) (by omega)))]
  refine am_g 3 44 [some (.ref 47), some (.int (nI t)), some (.int (nI k))] [.int (μ 17 0), .ref 47] (hG σ sr ln Lc μ) rfl ?_
  rw [show (μ 17 0) = (nI N) from hL]
  refine am_call (y := 160) (vs := [.ref 47, .int (nI N)]) (rest := []) (v := none) (h1 := (hG σ sr ln Lc μ2)) rfl rfl rfl (hr d) ?_
  refine am_g 2 51 [some (.ref 47), some (.int (nI t)), some (.int (nI k))] [.int (μ2 23 0)] (hG σ sr ln Lc μ2) rfl ?_
  rw [show (μ2 23 0) = 0 from h23]
  refine am_g 5 75 [some (.ref 47), some (.int (nI t)), some (.int (nI k))] [.int (μ2 17 0), .ref 53] (hG σ sr ln Lc μ2) rfl ?_
  rw [show (μ2 17 0) = (nI N) from hL2]
  refine am_ialdV (n := 40) (f := (μ2 7)) (k := N) (w := (nI s)) rfl rfl (rfl) (by omega) (by decide) (h7) ?_
  refine am_g 2 (if (nI s) = 5 then 80 else 92) [some (.ref 47), some (.int (nI t)), some (.int (nI k))] [] (hG σ sr ln Lc μ2) rfl ?_
  rw [if_pos (show (nI s) = 5 from (am_deq (a := s) (b := 5) (rfl) (rfl) (by omega) (by omega) (by omega)))]
  refine am_g 2 84 [some (.ref 47), some (.int (nI t)), some (.int (nI k))] [.int (μ2 19 0)] (hG σ sr ln Lc μ2) rfl ?_
  rw [show (μ2 19 0) = (nI O) from hO]
  refine am_g 2 (if (nI O) = 16 then 89 else 92) [some (.ref 47), some (.int (nI t)), some (.int (nI k))] [] (hG σ sr ln Lc μ2) rfl ?_
  rw [if_pos (show (nI O) = 16 from (am_deq (a := O) (b := 16) (rfl) (rfl) (by omega) (by omega) (by omega)))]
  refine am_g 1 91 [some (.ref 47), some (.int (nI t)), some (.int (nI k))] [.int (-4)] (hG σ sr ln Lc μ2) rfl ?_
  exact am_ret2 rfl rfl rfl rfl rfl
theorem sp_X12_line_ok (d : Nat) (t k : Nat) (ht : t < 3) (hk : k < 4) {N : Nat} (hr : ∀ d, am_X xs LL (d + 4) 160 [.ref 47, .int (nI N)] (hG σ sr ln Lc μ) none (hG σ sr ln Lc μ2)) (hL : μ 17 0 = nI N) (hLc : N < 40) (h23 : μ2 23 0 = 0) (hL2 : μ2 17 0 = nI N) {s : Nat} (hs6 : s < 6) (h7 : μ2 7 N = nI s) (hs : ¬ s = 5) : am_X xs LL (d + 5) 162 [.ref 47, .int (nI t), .int (nI k)] (hG σ sr ln Lc μ) (some (.int (((nI N) + 1) - 1))) (hG σ sr ln Lc (am_us (am_up (am_up (am_up (am_up (am_up (am_us μ2 21 0) 12 (upd (μ2 12) N (nI t))) 13 (upd (μ2 13) N (nI k))) 14 (upd (μ2 14) N 1)) 15 (upd (μ2 15) N (-1))) 16 (upd (μ2 16) N (-1))) 17 ((nI N) + 1))) := by
  refine am_XR (d := d + 4) (C := cd_X12_line) (L := [some (.ref 47), some (.int (nI t)), some (.int (nI k))]) rfl rfl rfl rfl ?_
  refine am_g 4 6 [some (.ref 47), some (.int (nI t)), some (.int (nI k))] [.long 2, .long 0, .long ((nI t).toInt64)] (hG σ sr ln Lc μ) rfl ?_
  refine am_call (y := 140) (vs := [.long ((nI t).toInt64), .long 0, .long 2]) (rest := []) (v := (some (.int 1))) (h1 := (hG σ sr ln Lc μ)) rfl rfl rfl (sp_X12_in_b (d + 3) _ _ _ _ ((am_in64c (x := nI t) (n := 3) (c := 2) rfl).trans (am_in_of_nI ht (by omega)))) ?_
  refine am_g 5 18 [some (.ref 47), some (.int (nI t)), some (.int (nI k))] [.long 3, .long 0, .long ((nI k).toInt64)] (hG σ sr ln Lc μ) rfl ?_
  refine am_call (y := 140) (vs := [.long ((nI k).toInt64), .long 0, .long 3]) (rest := []) (v := (some (.int 1))) (h1 := (hG σ sr ln Lc μ)) rfl rfl rfl (sp_X12_in_b (d + 3) _ _ _ _ ((am_in64c (x := nI k) (n := 4) (c := 3) rfl).trans (am_in_of_nI hk (by omega)))) ?_
  refine am_g 3 31 [some (.ref 47), some (.int (nI t)), some (.int (nI k))] [.int (μ 17 0)] (hG σ sr ln Lc μ) rfl ?_
  rw [show (μ 17 0) = (nI N) from hL]
  refine am_g 2 (if (nI N) = 40 then 36 else 39) [some (.ref 47), some (.int (nI t)), some (.int (nI k))] [] (hG σ sr ln Lc μ) rfl ?_
  rw [if_neg (show ¬ (nI N) = 40 from (am_dne (a := N) (b := 40) (rfl) (rfl) (by omega) (by omega) (by omega)))]
  refine am_g 3 44 [some (.ref 47), some (.int (nI t)), some (.int (nI k))] [.int (μ 17 0), .ref 47] (hG σ sr ln Lc μ) rfl ?_
  rw [show (μ 17 0) = (nI N) from hL]
  refine am_call (y := 160) (vs := [.ref 47, .int (nI N)]) (rest := []) (v := none) (h1 := (hG σ sr ln Lc μ2)) rfl rfl rfl (hr d) ?_
  refine am_g 2 51 [some (.ref 47), some (.int (nI t)), some (.int (nI k))] [.int (μ2 23 0)] (hG σ sr ln Lc μ2) rfl ?_
  rw [show (μ2 23 0) = 0 from h23]
  refine am_g 5 75 [some (.ref 47), some (.int (nI t)), some (.int (nI k))] [.int (μ2 17 0), .ref 53] (hG σ sr ln Lc μ2) rfl ?_
  rw [show (μ2 17 0) = (nI N) from hL2]
  refine am_ialdV (n := 40) (f := (μ2 7)) (k := N) (w := (nI s)) rfl rfl (rfl) (by omega) (by decide) (h7) ?_
  refine am_g 2 (if (nI s) = 5 then 80 else 92) [some (.ref 47), some (.int (nI t)), some (.int (nI k))] [] (hG σ sr ln Lc μ2) rfl ?_
  rw [if_neg (show ¬ (nI s) = 5 from (am_dne (a := s) (b := 5) (rfl) (rfl) (by omega) (by omega) (by omega)))]
  refine am_g 7 105 [some (.ref 47), some (.int (nI t)), some (.int (nI k))] [.int (μ2 17 0), .ref 58] (hG σ sr ln Lc (am_us μ2 21 0)) rfl ?_
  rw [show (μ2 17 0) = (nI N) from hL2]
  refine am_g 1 106 [some (.ref 47), some (.int (nI t)), some (.int (nI k))] [.int (nI t), .int (nI N), .ref 58] (hG σ sr ln Lc (am_us μ2 21 0)) rfl ?_
  refine am_iastR (n := 40) (f := (μ2 12)) (k := N) (h1 := (hG σ sr ln Lc (am_up (am_us μ2 21 0) 12 (upd (μ2 12) N (nI t))))) rfl rfl (rfl) (by omega) (by decide) rfl ?_
  refine am_g 4 115 [some (.ref 47), some (.int (nI t)), some (.int (nI k))] [.int (μ2 17 0), .ref 59] (hG σ sr ln Lc (am_up (am_us μ2 21 0) 12 (upd (μ2 12) N (nI t)))) rfl ?_
  rw [show (μ2 17 0) = (nI N) from hL2]
  refine am_g 1 116 [some (.ref 47), some (.int (nI t)), some (.int (nI k))] [.int (nI k), .int (nI N), .ref 59] (hG σ sr ln Lc (am_up (am_us μ2 21 0) 12 (upd (μ2 12) N (nI t)))) rfl ?_
  refine am_iastR (n := 40) (f := (μ2 13)) (k := N) (h1 := (hG σ sr ln Lc (am_up (am_up (am_us μ2 21 0) 12 (upd (μ2 12) N (nI t))) 13 (upd (μ2 13) N (nI k))))) rfl rfl (rfl) (by omega) (by decide) rfl ?_
  refine am_g 4 125 [some (.ref 47), some (.int (nI t)), some (.int (nI k))] [.int (μ2 17 0), .ref 60] (hG σ sr ln Lc (am_up (am_up (am_us μ2 21 0) 12 (upd (μ2 12) N (nI t))) 13 (upd (μ2 13) N (nI k)))) rfl ?_
  rw [show (μ2 17 0) = (nI N) from hL2]
  refine am_g 1 126 [some (.ref 47), some (.int (nI t)), some (.int (nI k))] [.int 1, .int (nI N), .ref 60] (hG σ sr ln Lc (am_up (am_up (am_us μ2 21 0) 12 (upd (μ2 12) N (nI t))) 13 (upd (μ2 13) N (nI k)))) rfl ?_
  refine am_bastR (n := 40) (f := (μ2 14)) (k := N) (h1 := (hG σ sr ln Lc (am_up (am_up (am_up (am_us μ2 21 0) 12 (upd (μ2 12) N (nI t))) 13 (upd (μ2 13) N (nI k))) 14 (upd (μ2 14) N (vp_nar .boolean 1))))) rfl rfl (rfl) (by omega) (by decide) rfl ?_
  refine am_g 4 135 [some (.ref 47), some (.int (nI t)), some (.int (nI k))] [.int (μ2 17 0), .ref 61] (hG σ sr ln Lc (am_up (am_up (am_up (am_us μ2 21 0) 12 (upd (μ2 12) N (nI t))) 13 (upd (μ2 13) N (nI k))) 14 (upd (μ2 14) N (vp_nar .boolean 1)))) rfl ?_
  rw [show (μ2 17 0) = (nI N) from hL2]
  refine am_g 1 136 [some (.ref 47), some (.int (nI t)), some (.int (nI k))] [.int (-1), .int (nI N), .ref 61] (hG σ sr ln Lc (am_up (am_up (am_up (am_us μ2 21 0) 12 (upd (μ2 12) N (nI t))) 13 (upd (μ2 13) N (nI k))) 14 (upd (μ2 14) N (vp_nar .boolean 1)))) rfl ?_
  refine am_iastR (n := 40) (f := (μ2 15)) (k := N) (h1 := (hG σ sr ln Lc (am_up (am_up (am_up (am_up (am_us μ2 21 0) 12 (upd (μ2 12) N (nI t))) 13 (upd (μ2 13) N (nI k))) 14 (upd (μ2 14) N (vp_nar .boolean 1))) 15 (upd (μ2 15) N (-1))))) rfl rfl (rfl) (by omega) (by decide) rfl ?_
  refine am_g 4 145 [some (.ref 47), some (.int (nI t)), some (.int (nI k))] [.int (μ2 17 0), .ref 62] (hG σ sr ln Lc (am_up (am_up (am_up (am_up (am_us μ2 21 0) 12 (upd (μ2 12) N (nI t))) 13 (upd (μ2 13) N (nI k))) 14 (upd (μ2 14) N (vp_nar .boolean 1))) 15 (upd (μ2 15) N (-1)))) rfl ?_
  rw [show (μ2 17 0) = (nI N) from hL2]
  refine am_g 1 146 [some (.ref 47), some (.int (nI t)), some (.int (nI k))] [.int (-1), .int (nI N), .ref 62] (hG σ sr ln Lc (am_up (am_up (am_up (am_up (am_us μ2 21 0) 12 (upd (μ2 12) N (nI t))) 13 (upd (μ2 13) N (nI k))) 14 (upd (μ2 14) N (vp_nar .boolean 1))) 15 (upd (μ2 15) N (-1)))) rfl ?_
  refine am_iastR (n := 40) (f := (μ2 16)) (k := N) (h1 := (hG σ sr ln Lc (am_up (am_up (am_up (am_up (am_up (am_us μ2 21 0) 12 (upd (μ2 12) N (nI t))) 13 (upd (μ2 13) N (nI k))) 14 (upd (μ2 14) N (vp_nar .boolean 1))) 15 (upd (μ2 15) N (-1))) 16 (upd (μ2 16) N (-1))))) rfl rfl (rfl) (by omega) (by decide) rfl ?_
  refine am_g 4 155 [some (.ref 47), some (.int (nI t)), some (.int (nI k))] [.int (μ2 17 0), .ref 53] (hG σ sr ln Lc (am_up (am_up (am_up (am_up (am_up (am_us μ2 21 0) 12 (upd (μ2 12) N (nI t))) 13 (upd (μ2 13) N (nI k))) 14 (upd (μ2 14) N (vp_nar .boolean 1))) 15 (upd (μ2 15) N (-1))) 16 (upd (μ2 16) N (-1)))) rfl ?_
  rw [show (μ2 17 0) = (nI N) from hL2]
  refine am_ialdV (n := 40) (f := (μ2 7)) (k := N) (w := (nI s)) rfl rfl (rfl) (by omega) (by decide) (h7) ?_
  refine am_g 2 (if (nI s) = 5 then 160 else 196) [some (.ref 47), some (.int (nI t)), some (.int (nI k))] [] (hG σ sr ln Lc (am_up (am_up (am_up (am_up (am_up (am_us μ2 21 0) 12 (upd (μ2 12) N (nI t))) 13 (upd (μ2 13) N (nI k))) 14 (upd (μ2 14) N (vp_nar .boolean 1))) 15 (upd (μ2 15) N (-1))) 16 (upd (μ2 16) N (-1)))) rfl ?_
  rw [if_neg (show ¬ (nI s) = 5 from (am_dne (a := s) (b := 5) (rfl) (rfl) (by omega) (by omega) (by omega)))]
  refine am_g 3 201 [some (.ref 47), some (.int (nI t)), some (.int (nI k))] [.int (μ2 17 0), .ref 47] (hG σ sr ln Lc (am_up (am_up (am_up (am_up (am_up (am_us μ2 21 0) 12 (upd (μ2 12) N (nI t))) 13 (upd (μ2 13) N (nI k))) 14 (upd (μ2 14) N (vp_nar .boolean 1))) 15 (upd (μ2 15) N (-1))) 16 (upd (μ2 16) N (-1)))) rfl ?_
  rw [show (μ2 17 0) = (nI N) from hL2]
  refine am_g 7 212 [some (.ref 47), some (.int (nI t)), some (.int (nI k))] [.int (((nI N) + 1) - 1)] (hG σ sr ln Lc (am_us (am_up (am_up (am_up (am_up (am_up (am_us μ2 21 0) 12 (upd (μ2 12) N (nI t))) 13 (upd (μ2 13) N (nI k))) 14 (upd (μ2 14) N (vp_nar .boolean 1))) 15 (upd (μ2 15) N (-1))) 16 (upd (μ2 16) N (-1))) 17 ((nI N) + 1))) rfl ?_
  exact am_ret2 rfl rfl rfl rfl rfl
theorem sp_X12_line_make (d : Nat) (t k : Nat) (ht : t < 3) (hk : k < 4) {N : Nat} (hr : ∀ d, am_X xs LL (d + 4) 160 [.ref 47, .int (nI N)] (hG σ sr ln Lc μ) none (hG σ sr ln Lc μ2)) (hL : μ 17 0 = nI N) (hLc : N < 40) (h23 : μ2 23 0 = 0) (hL2 : μ2 17 0 = nI N) {s : Nat} (hs6 : s < 6) (h7 : μ2 7 N = nI s) (hs : s = 5) {O : Nat} (hO : μ2 19 0 = nI O) (hO16 : O < 16) : am_X xs LL (d + 5) 162 [.ref 47, .int (nI t), .int (nI k)] (hG σ sr ln Lc μ) (some (.int (((nI N) + 1) - 1))) (hG σ sr ln Lc (am_us (am_us (am_up (am_up (am_up (am_up (am_up (am_up (am_us μ2 21 0) 12 (upd (μ2 12) N (nI t))) 13 (upd (μ2 13) N (nI k))) 14 (upd (μ2 14) N 1)) 15 (upd (μ2 15) N (-1))) 16 (upd (upd (μ2 16) N (-1)) N (nI O))) 18 (upd (μ2 18) O (nI N))) 19 ((nI O) + 1)) 17 ((nI N) + 1))) := by
  refine am_XR (d := d + 4) (C := cd_X12_line) (L := [some (.ref 47), some (.int (nI t)), some (.int (nI k))]) rfl rfl rfl rfl ?_
  refine am_g 4 6 [some (.ref 47), some (.int (nI t)), some (.int (nI k))] [.long 2, .long 0, .long ((nI t).toInt64)] (hG σ sr ln Lc μ) rfl ?_
  refine am_call (y := 140) (vs := [.long ((nI t).toInt64), .long 0, .long 2]) (rest := []) (v := (some (.int 1))) (h1 := (hG σ sr ln Lc μ)) rfl rfl rfl (sp_X12_in_b (d + 3) _ _ _ _ ((am_in64c (x := nI t) (n := 3) (c := 2) rfl).trans (am_in_of_nI ht (by omega)))) ?_
  refine am_g 5 18 [some (.ref 47), some (.int (nI t)), some (.int (nI k))] [.long 3, .long 0, .long ((nI k).toInt64)] (hG σ sr ln Lc μ) rfl ?_
  refine am_call (y := 140) (vs := [.long ((nI k).toInt64), .long 0, .long 3]) (rest := []) (v := (some (.int 1))) (h1 := (hG σ sr ln Lc μ)) rfl rfl rfl (sp_X12_in_b (d + 3) _ _ _ _ ((am_in64c (x := nI k) (n := 4) (c := 3) rfl).trans (am_in_of_nI hk (by omega)))) ?_
  refine am_g 3 31 [some (.ref 47), some (.int (nI t)), some (.int (nI k))] [.int (μ 17 0)] (hG σ sr ln Lc μ) rfl ?_
  rw [show (μ 17 0) = (nI N) from hL]
  refine am_g 2 (if (nI N) = 40 then 36 else 39) [some (.ref 47), some (.int (nI t)), some (.int (nI k))] [] (hG σ sr ln Lc μ) rfl ?_
  rw [if_neg (show ¬ (nI N) = 40 from (am_dne (a := N) (b := 40) (rfl) (rfl) (by omega) (by omega) (by omega)))]
  refine am_g 3 44 [some (.ref 47), some (.int (nI t)), some (.int (nI k))] [.int (μ 17 0), .ref 47] (hG σ sr ln Lc μ) rfl ?_
  rw [show (μ 17 0) = (nI N) from hL]
  refine am_call (y := 160) (vs := [.ref 47, .int (nI N)]) (rest := []) (v := none) (h1 := (hG σ sr ln Lc μ2)) rfl rfl rfl (hr d) ?_
  refine am_g 2 51 [some (.ref 47), some (.int (nI t)), some (.int (nI k))] [.int (μ2 23 0)] (hG σ sr ln Lc μ2) rfl ?_
  rw [show (μ2 23 0) = 0 from h23]
  refine am_g 5 75 [some (.ref 47), some (.int (nI t)), some (.int (nI k))] [.int (μ2 17 0), .ref 53] (hG σ sr ln Lc μ2) rfl ?_
  rw [show (μ2 17 0) = (nI N) from hL2]
  refine am_ialdV (n := 40) (f := (μ2 7)) (k := N) (w := (nI s)) rfl rfl (rfl) (by omega) (by decide) (h7) ?_
  refine am_g 2 (if (nI s) = 5 then 80 else 92) [some (.ref 47), some (.int (nI t)), some (.int (nI k))] [] (hG σ sr ln Lc μ2) rfl ?_
  rw [if_pos (show (nI s) = 5 from (am_deq (a := s) (b := 5) (rfl) (rfl) (by omega) (by omega) (by omega)))]
  refine am_g 2 84 [some (.ref 47), some (.int (nI t)), some (.int (nI k))] [.int (μ2 19 0)] (hG σ sr ln Lc μ2) rfl ?_
  rw [show (μ2 19 0) = (nI O) from hO]
  refine am_g 2 (if (nI O) = 16 then 89 else 92) [some (.ref 47), some (.int (nI t)), some (.int (nI k))] [] (hG σ sr ln Lc μ2) rfl ?_
  rw [if_neg (show ¬ (nI O) = 16 from (am_dne (a := O) (b := 16) (rfl) (rfl) (by omega) (by omega) (by omega)))]
  refine am_g 7 105 [some (.ref 47), some (.int (nI t)), some (.int (nI k))] [.int (μ2 17 0), .ref 58] (hG σ sr ln Lc (am_us μ2 21 0)) rfl ?_
  rw [show (μ2 17 0) = (nI N) from hL2]
  refine am_g 1 106 [some (.ref 47), some (.int (nI t)), some (.int (nI k))] [.int (nI t), .int (nI N), .ref 58] (hG σ sr ln Lc (am_us μ2 21 0)) rfl ?_
  refine am_iastR (n := 40) (f := (μ2 12)) (k := N) (h1 := (hG σ sr ln Lc (am_up (am_us μ2 21 0) 12 (upd (μ2 12) N (nI t))))) rfl rfl (rfl) (by omega) (by decide) rfl ?_
  refine am_g 4 115 [some (.ref 47), some (.int (nI t)), some (.int (nI k))] [.int (μ2 17 0), .ref 59] (hG σ sr ln Lc (am_up (am_us μ2 21 0) 12 (upd (μ2 12) N (nI t)))) rfl ?_
  rw [show (μ2 17 0) = (nI N) from hL2]
  refine am_g 1 116 [some (.ref 47), some (.int (nI t)), some (.int (nI k))] [.int (nI k), .int (nI N), .ref 59] (hG σ sr ln Lc (am_up (am_us μ2 21 0) 12 (upd (μ2 12) N (nI t)))) rfl ?_
  refine am_iastR (n := 40) (f := (μ2 13)) (k := N) (h1 := (hG σ sr ln Lc (am_up (am_up (am_us μ2 21 0) 12 (upd (μ2 12) N (nI t))) 13 (upd (μ2 13) N (nI k))))) rfl rfl (rfl) (by omega) (by decide) rfl ?_
  refine am_g 4 125 [some (.ref 47), some (.int (nI t)), some (.int (nI k))] [.int (μ2 17 0), .ref 60] (hG σ sr ln Lc (am_up (am_up (am_us μ2 21 0) 12 (upd (μ2 12) N (nI t))) 13 (upd (μ2 13) N (nI k)))) rfl ?_
  rw [show (μ2 17 0) = (nI N) from hL2]
  refine am_g 1 126 [some (.ref 47), some (.int (nI t)), some (.int (nI k))] [.int 1, .int (nI N), .ref 60] (hG σ sr ln Lc (am_up (am_up (am_us μ2 21 0) 12 (upd (μ2 12) N (nI t))) 13 (upd (μ2 13) N (nI k)))) rfl ?_
  refine am_bastR (n := 40) (f := (μ2 14)) (k := N) (h1 := (hG σ sr ln Lc (am_up (am_up (am_up (am_us μ2 21 0) 12 (upd (μ2 12) N (nI t))) 13 (upd (μ2 13) N (nI k))) 14 (upd (μ2 14) N (vp_nar .boolean 1))))) rfl rfl (rfl) (by omega) (by decide) rfl ?_
  refine am_g 4 135 [some (.ref 47), some (.int (nI t)), some (.int (nI k))] [.int (μ2 17 0), .ref 61] (hG σ sr ln Lc (am_up (am_up (am_up (am_us μ2 21 0) 12 (upd (μ2 12) N (nI t))) 13 (upd (μ2 13) N (nI k))) 14 (upd (μ2 14) N (vp_nar .boolean 1)))) rfl ?_
  rw [show (μ2 17 0) = (nI N) from hL2]
  refine am_g 1 136 [some (.ref 47), some (.int (nI t)), some (.int (nI k))] [.int (-1), .int (nI N), .ref 61] (hG σ sr ln Lc (am_up (am_up (am_up (am_us μ2 21 0) 12 (upd (μ2 12) N (nI t))) 13 (upd (μ2 13) N (nI k))) 14 (upd (μ2 14) N (vp_nar .boolean 1)))) rfl ?_
  refine am_iastR (n := 40) (f := (μ2 15)) (k := N) (h1 := (hG σ sr ln Lc (am_up (am_up (am_up (am_up (am_us μ2 21 0) 12 (upd (μ2 12) N (nI t))) 13 (upd (μ2 13) N (nI k))) 14 (upd (μ2 14) N (vp_nar .boolean 1))) 15 (upd (μ2 15) N (-1))))) rfl rfl (rfl) (by omega) (by decide) rfl ?_
  refine am_g 4 145 [some (.ref 47), some (.int (nI t)), some (.int (nI k))] [.int (μ2 17 0), .ref 62] (hG σ sr ln Lc (am_up (am_up (am_up (am_up (am_us μ2 21 0) 12 (upd (μ2 12) N (nI t))) 13 (upd (μ2 13) N (nI k))) 14 (upd (μ2 14) N (vp_nar .boolean 1))) 15 (upd (μ2 15) N (-1)))) rfl ?_
  rw [show (μ2 17 0) = (nI N) from hL2]
  refine am_g 1 146 [some (.ref 47), some (.int (nI t)), some (.int (nI k))] [.int (-1), .int (nI N), .ref 62] (hG σ sr ln Lc (am_up (am_up (am_up (am_up (am_us μ2 21 0) 12 (upd (μ2 12) N (nI t))) 13 (upd (μ2 13) N (nI k))) 14 (upd (μ2 14) N (vp_nar .boolean 1))) 15 (upd (μ2 15) N (-1)))) rfl ?_
  refine am_iastR (n := 40) (f := (μ2 16)) (k := N) (h1 := (hG σ sr ln Lc (am_up (am_up (am_up (am_up (am_up (am_us μ2 21 0) 12 (upd (μ2 12) N (nI t))) 13 (upd (μ2 13) N (nI k))) 14 (upd (μ2 14) N (vp_nar .boolean 1))) 15 (upd (μ2 15) N (-1))) 16 (upd (μ2 16) N (-1))))) rfl rfl (rfl) (by omega) (by decide) rfl ?_
  refine am_g 4 155 [some (.ref 47), some (.int (nI t)), some (.int (nI k))] [.int (μ2 17 0), .ref 53] (hG σ sr ln Lc (am_up (am_up (am_up (am_up (am_up (am_us μ2 21 0) 12 (upd (μ2 12) N (nI t))) 13 (upd (μ2 13) N (nI k))) 14 (upd (μ2 14) N (vp_nar .boolean 1))) 15 (upd (μ2 15) N (-1))) 16 (upd (μ2 16) N (-1)))) rfl ?_
  rw [show (μ2 17 0) = (nI N) from hL2]
  refine am_ialdV (n := 40) (f := (μ2 7)) (k := N) (w := (nI s)) rfl rfl (rfl) (by omega) (by decide) (h7) ?_
  refine am_g 2 (if (nI s) = 5 then 160 else 196) [some (.ref 47), some (.int (nI t)), some (.int (nI k))] [] (hG σ sr ln Lc (am_up (am_up (am_up (am_up (am_up (am_us μ2 21 0) 12 (upd (μ2 12) N (nI t))) 13 (upd (μ2 13) N (nI k))) 14 (upd (μ2 14) N (vp_nar .boolean 1))) 15 (upd (μ2 15) N (-1))) 16 (upd (μ2 16) N (-1)))) rfl ?_
  rw [if_pos (show (nI s) = 5 from (am_deq (a := s) (b := 5) (rfl) (rfl) (by omega) (by omega) (by omega)))]
  refine am_g 4 168 [some (.ref 47), some (.int (nI t)), some (.int (nI k))] [.int (μ2 17 0), .ref 62] (hG σ sr ln Lc (am_up (am_up (am_up (am_up (am_up (am_us μ2 21 0) 12 (upd (μ2 12) N (nI t))) 13 (upd (μ2 13) N (nI k))) 14 (upd (μ2 14) N (vp_nar .boolean 1))) 15 (upd (μ2 15) N (-1))) 16 (upd (μ2 16) N (-1)))) rfl ?_
  rw [show (μ2 17 0) = (nI N) from hL2]
  refine am_g 2 172 [some (.ref 47), some (.int (nI t)), some (.int (nI k))] [.int (μ2 19 0), .int (nI N), .ref 62] (hG σ sr ln Lc (am_up (am_up (am_up (am_up (am_up (am_us μ2 21 0) 12 (upd (μ2 12) N (nI t))) 13 (upd (μ2 13) N (nI k))) 14 (upd (μ2 14) N (vp_nar .boolean 1))) 15 (upd (μ2 15) N (-1))) 16 (upd (μ2 16) N (-1)))) rfl ?_
  rw [show (μ2 19 0) = (nI O) from hO]
  refine am_iastR (n := 40) (f := (upd (μ2 16) N (-1))) (k := N) (h1 := (hG σ sr ln Lc (am_up (am_up (am_up (am_up (am_up (am_us μ2 21 0) 12 (upd (μ2 12) N (nI t))) 13 (upd (μ2 13) N (nI k))) 14 (upd (μ2 14) N (vp_nar .boolean 1))) 15 (upd (μ2 15) N (-1))) 16 (upd (upd (μ2 16) N (-1)) N (nI O))))) rfl rfl (rfl) (by omega) (by decide) rfl ?_
  refine am_g 4 181 [some (.ref 47), some (.int (nI t)), some (.int (nI k))] [.int (μ2 19 0), .ref 63] (hG σ sr ln Lc (am_up (am_up (am_up (am_up (am_up (am_us μ2 21 0) 12 (upd (μ2 12) N (nI t))) 13 (upd (μ2 13) N (nI k))) 14 (upd (μ2 14) N (vp_nar .boolean 1))) 15 (upd (μ2 15) N (-1))) 16 (upd (upd (μ2 16) N (-1)) N (nI O)))) rfl ?_
  rw [show (μ2 19 0) = (nI O) from hO]
  refine am_g 2 185 [some (.ref 47), some (.int (nI t)), some (.int (nI k))] [.int (μ2 17 0), .int (nI O), .ref 63] (hG σ sr ln Lc (am_up (am_up (am_up (am_up (am_up (am_us μ2 21 0) 12 (upd (μ2 12) N (nI t))) 13 (upd (μ2 13) N (nI k))) 14 (upd (μ2 14) N (vp_nar .boolean 1))) 15 (upd (μ2 15) N (-1))) 16 (upd (upd (μ2 16) N (-1)) N (nI O)))) rfl ?_
  rw [show (μ2 17 0) = (nI N) from hL2]
  refine am_iastR (n := 16) (f := (μ2 18)) (k := O) (h1 := (hG σ sr ln Lc (am_up (am_up (am_up (am_up (am_up (am_up (am_us μ2 21 0) 12 (upd (μ2 12) N (nI t))) 13 (upd (μ2 13) N (nI k))) 14 (upd (μ2 14) N (vp_nar .boolean 1))) 15 (upd (μ2 15) N (-1))) 16 (upd (upd (μ2 16) N (-1)) N (nI O))) 18 (upd (μ2 18) O (nI N))))) rfl rfl (rfl) (by omega) (by decide) rfl ?_
  refine am_g 3 191 [some (.ref 47), some (.int (nI t)), some (.int (nI k))] [.int (μ2 19 0), .ref 47] (hG σ sr ln Lc (am_up (am_up (am_up (am_up (am_up (am_up (am_us μ2 21 0) 12 (upd (μ2 12) N (nI t))) 13 (upd (μ2 13) N (nI k))) 14 (upd (μ2 14) N (vp_nar .boolean 1))) 15 (upd (μ2 15) N (-1))) 16 (upd (upd (μ2 16) N (-1)) N (nI O))) 18 (upd (μ2 18) O (nI N)))) rfl ?_
  rw [show (μ2 19 0) = (nI O) from hO]
  refine am_g 6 201 [some (.ref 47), some (.int (nI t)), some (.int (nI k))] [.int (μ2 17 0), .ref 47] (hG σ sr ln Lc (am_us (am_up (am_up (am_up (am_up (am_up (am_up (am_us μ2 21 0) 12 (upd (μ2 12) N (nI t))) 13 (upd (μ2 13) N (nI k))) 14 (upd (μ2 14) N (vp_nar .boolean 1))) 15 (upd (μ2 15) N (-1))) 16 (upd (upd (μ2 16) N (-1)) N (nI O))) 18 (upd (μ2 18) O (nI N))) 19 ((nI O) + 1))) rfl ?_
  rw [show (μ2 17 0) = (nI N) from hL2]
  refine am_g 7 212 [some (.ref 47), some (.int (nI t)), some (.int (nI k))] [.int (((nI N) + 1) - 1)] (hG σ sr ln Lc (am_us (am_us (am_up (am_up (am_up (am_up (am_up (am_up (am_us μ2 21 0) 12 (upd (μ2 12) N (nI t))) 13 (upd (μ2 13) N (nI k))) 14 (upd (μ2 14) N (vp_nar .boolean 1))) 15 (upd (μ2 15) N (-1))) 16 (upd (upd (μ2 16) N (-1)) N (nI O))) 18 (upd (μ2 18) O (nI N))) 19 ((nI O) + 1)) 17 ((nI N) + 1))) rfl ?_
  exact am_ret2 rfl rfl rfl rfl rfl
end RLN
