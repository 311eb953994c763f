/-! the tape as the class reads it -/
def pu_su (c : Nat) (v : Int32) : Bool := match c with
  | 120 => decide (97 ≤ v ∧ v ≤ 116)
  | 121 => decide (97 ≤ v ∧ v ≤ 116)
  | 122 => decide (97 ≤ v ∧ v ≤ 116)
  | 55 => decide (48 ≤ v ∧ v ≤ 55)
  | 50 => decide (48 ≤ v ∧ v ≤ 50)
  | c => decide (v = nI c)
def pu_mt (tp : Nat → Int32) (T : Nat) : List Nat → Nat → Nat
  | [], i => i
  | c :: cs, i => if nI T ≤ nI i then i else bif pu_su c (tp i) then pu_mt tp T cs (i + 1) else i
def pu_fm (k : Nat) : List Nat := match k with
  | 1 => [120, 61, 121, 47, 55]
  | 2 => [120, 61, 121, 46, 50]
  | 3 => [120, 46, 50, 61, 121]
  | 4 => [120, 61, 121, 58, 50, 40, 122, 41]
  | 5 => [120, 61, 33, 55]
  | _ => [120, 61, 121]
def pu_so (T len m : Nat) (k rest : Int32) : Int32 := if nI T = nI len then (if nI m = nI T then k else rest) else rest
def pu_sort (tp : Nat → Int32) (T : Nat) : Int32 := pu_so T 3 (pu_mt tp T (pu_fm 0) 0) 0 (pu_so T 5 (pu_mt tp T (pu_fm 1) 0) 1 (pu_so T 5 (pu_mt tp T (pu_fm 2) 0) 2 (pu_so T 5 (pu_mt tp T (pu_fm 3) 0) 3 (pu_so T 8 (pu_mt tp T (pu_fm 4) 0) 4 (pu_so T 4 (pu_mt tp T (pu_fm 5) 0) 5 (-1))))))
def pu_flt (tp : Nat → Int32) (T : Nat) : Nat := max (max (max (max (max (max 0 (pu_mt tp T (pu_fm 0) 0)) (pu_mt tp T (pu_fm 1) 0)) (pu_mt tp T (pu_fm 2) 0)) (pu_mt tp T (pu_fm 3) 0)) (pu_mt tp T (pu_fm 4) 0)) (pu_mt tp T (pu_fm 5) 0)
theorem nI_max {a b : Nat} (ha : a < 2 ^ 31) (hb : b < 2 ^ 31) : (if nI a < nI b then nI b else nI a) = nI (max a b) := by
  by_cases h : a < b
  · rw [if_pos (nI_lt h hb), Nat.max_eq_right (by omega)]
  · rw [if_neg (nI_nlt (by omega) ha), Nat.max_eq_left (by omega)]
theorem pu_mt_le (tp : Nat → Int32) (T : Nat) : ∀ cs i, pu_mt tp T cs i ≤ i + cs.length := by
  intro cs
  induction cs with
  | nil => intro i; exact Nat.le_refl _
  | cons c cs ih =>
    intro i
    show (if nI T ≤ nI i then i else bif pu_su c (tp i) then pu_mt tp T cs (i + 1) else i) ≤ i + (cs.length + 1)
    split
    · omega
    · cases pu_su c (tp i) with
      | true => have := ih (i + 1); show pu_mt tp T cs (i + 1) ≤ _; omega
      | false => show i ≤ _; omega
theorem nI_lt_of {T k : Nat} (h : nI k < nI T) (hT : T ≤ 20) (hk : k < 100) : k < T := by
  rcases Nat.lt_or_ge k T with q | q
  · exact q
  · exact absurd h (nI_nlt q (by omega))
section TP
variable {xs : Nat → Int32} {LL : Nat} {σ μ : Nat → Nat → Int32} {sr : Nat → Nat} {ln : Nat → Nat → Int32} {Lc : Nat}
theorem am_strE {h : am_H} {r : Nat} (h0 : 0 < r) (h7 : r < 7) : am_get h r = none := by
  unfold am_get
  rw [show Nat.blt r 14 = true from Nat.blt_eq.mpr (by omega)]
  rfl
theorem sp_J0_coder_7d493_1 (d : Nat) (h : am_H) : am_X xs LL (d + 1) 215 [.ref 1] h (some (.int 0)) h := by
  refine am_XR (d := d + 0) (C := cd_J0_coder_7d493) (L := [some (.ref 1)]) rfl rfl rfl rfl ?_
  refine am_g 5 14 [some (.ref 1)] [.int 0] h rfl ?_
  exact am_ret2 rfl rfl rfl rfl rfl
theorem sp_J0_isLatin1_aae02_1 (d : Nat) (h : am_H) : am_X xs LL (d + 1) 216 [.ref 1] h (some (.int 1)) h := by
  refine am_XR (d := d + 0) (C := cd_J0_isLatin1_aae02) (L := [some (.ref 1)]) rfl rfl rfl rfl ?_
  refine am_g 6 14 [some (.ref 1)] [.int 1] h rfl ?_
  refine am_g 1 18 [some (.ref 1)] [.int 1] h rfl ?_
  exact am_ret2 rfl rfl rfl rfl rfl
theorem sp_J0_length_8abf5_1 (d : Nat) (h : am_H) : am_X xs LL (d + 2) 212 [.ref 1] h (some (.int 5)) h := by
  refine am_XR (d := d + 1) (C := cd_J0_length_8abf5) (L := [some (.ref 1)]) rfl rfl rfl rfl ?_
  refine am_g 4 6 [some (.ref 1)] [.ref 1, .int 5] h rfl ?_
  refine am_call (y := 215) (vs := [.ref 1]) (rest := [.int 5]) (v := (some (.int 0))) (h1 := h) rfl rfl rfl (sp_J0_coder_7d493_1 d _) ?_
  refine am_g 1 10 [some (.ref 1)] [.int 5] h rfl ?_
  exact am_ret2 rfl rfl rfl rfl rfl
theorem sp_J0_coder_7d493_2 (d : Nat) (h : am_H) : am_X xs LL (d + 1) 215 [.ref 2] h (some (.int 0)) h := by
  refine am_XR (d := d + 0) (C := cd_J0_coder_7d493) (L := [some (.ref 2)]) rfl rfl rfl rfl ?_
  refine am_g 5 14 [some (.ref 2)] [.int 0] h rfl ?_
  exact am_ret2 rfl rfl rfl rfl rfl
theorem sp_J0_isLatin1_aae02_2 (d : Nat) (h : am_H) : am_X xs LL (d + 1) 216 [.ref 2] h (some (.int 1)) h := by
  refine am_XR (d := d + 0) (C := cd_J0_isLatin1_aae02) (L := [some (.ref 2)]) rfl rfl rfl rfl ?_
  refine am_g 6 14 [some (.ref 2)] [.int 1] h rfl ?_
  refine am_g 1 18 [some (.ref 2)] [.int 1] h rfl ?_
  exact am_ret2 rfl rfl rfl rfl rfl
theorem sp_J0_length_8abf5_2 (d : Nat) (h : am_H) : am_X xs LL (d + 2) 212 [.ref 2] h (some (.int 5)) h := by
  refine am_XR (d := d + 1) (C := cd_J0_length_8abf5) (L := [some (.ref 2)]) rfl rfl rfl rfl ?_
  refine am_g 4 6 [some (.ref 2)] [.ref 2, .int 5] h rfl ?_
  refine am_call (y := 215) (vs := [.ref 2]) (rest := [.int 5]) (v := (some (.int 0))) (h1 := h) rfl rfl rfl (sp_J0_coder_7d493_2 d _) ?_
  refine am_g 1 10 [some (.ref 2)] [.int 5] h rfl ?_
  exact am_ret2 rfl rfl rfl rfl rfl
theorem sp_J0_coder_7d493_3 (d : Nat) (h : am_H) : am_X xs LL (d + 1) 215 [.ref 3] h (some (.int 0)) h := by
  refine am_XR (d := d + 0) (C := cd_J0_coder_7d493) (L := [some (.ref 3)]) rfl rfl rfl rfl ?_
  refine am_g 5 14 [some (.ref 3)] [.int 0] h rfl ?_
  exact am_ret2 rfl rfl rfl rfl rfl
theorem sp_J0_isLatin1_aae02_3 (d : Nat) (h : am_H) : am_X xs LL (d + 1) 216 [.ref 3] h (some (.int 1)) h := by
  refine am_XR (d := d + 0) (C := cd_J0_isLatin1_aae02) (L := [some (.ref 3)]) rfl rfl rfl rfl ?_
  refine am_g 6 14 [some (.ref 3)] [.int 1] h rfl ?_
  refine am_g 1 18 [some (.ref 3)] [.int 1] h rfl ?_
  exact am_ret2 rfl rfl rfl rfl rfl
theorem sp_J0_length_8abf5_3 (d : Nat) (h : am_H) : am_X xs LL (d + 2) 212 [.ref 3] h (some (.int 5)) h := by
  refine am_XR (d := d + 1) (C := cd_J0_length_8abf5) (L := [some (.ref 3)]) rfl rfl rfl rfl ?_
  refine am_g 4 6 [some (.ref 3)] [.ref 3, .int 5] h rfl ?_
  refine am_call (y := 215) (vs := [.ref 3]) (rest := [.int 5]) (v := (some (.int 0))) (h1 := h) rfl rfl rfl (sp_J0_coder_7d493_3 d _) ?_
  refine am_g 1 10 [some (.ref 3)] [.int 5] h rfl ?_
  exact am_ret2 rfl rfl rfl rfl rfl
theorem sp_J0_coder_7d493_4 (d : Nat) (h : am_H) : am_X xs LL (d + 1) 215 [.ref 4] h (some (.int 0)) h := by
  refine am_XR (d := d + 0) (C := cd_J0_coder_7d493) (L := [some (.ref 4)]) rfl rfl rfl rfl ?_
  refine am_g 5 14 [some (.ref 4)] [.int 0] h rfl ?_
  exact am_ret2 rfl rfl rfl rfl rfl
theorem sp_J0_isLatin1_aae02_4 (d : Nat) (h : am_H) : am_X xs LL (d + 1) 216 [.ref 4] h (some (.int 1)) h := by
  refine am_XR (d := d + 0) (C := cd_J0_isLatin1_aae02) (L := [some (.ref 4)]) rfl rfl rfl rfl ?_
  refine am_g 6 14 [some (.ref 4)] [.int 1] h rfl ?_
  refine am_g 1 18 [some (.ref 4)] [.int 1] h rfl ?_
  exact am_ret2 rfl rfl rfl rfl rfl
theorem sp_J0_length_8abf5_4 (d : Nat) (h : am_H) : am_X xs LL (d + 2) 212 [.ref 4] h (some (.int 8)) h := by
  refine am_XR (d := d + 1) (C := cd_J0_length_8abf5) (L := [some (.ref 4)]) rfl rfl rfl rfl ?_
  refine am_g 4 6 [some (.ref 4)] [.ref 4, .int 8] h rfl ?_
  refine am_call (y := 215) (vs := [.ref 4]) (rest := [.int 8]) (v := (some (.int 0))) (h1 := h) rfl rfl rfl (sp_J0_coder_7d493_4 d _) ?_
  refine am_g 1 10 [some (.ref 4)] [.int 8] h rfl ?_
  exact am_ret2 rfl rfl rfl rfl rfl
theorem sp_J0_coder_7d493_5 (d : Nat) (h : am_H) : am_X xs LL (d + 1) 215 [.ref 5] h (some (.int 0)) h := by
  refine am_XR (d := d + 0) (C := cd_J0_coder_7d493) (L := [some (.ref 5)]) rfl rfl rfl rfl ?_
  refine am_g 5 14 [some (.ref 5)] [.int 0] h rfl ?_
  exact am_ret2 rfl rfl rfl rfl rfl
theorem sp_J0_isLatin1_aae02_5 (d : Nat) (h : am_H) : am_X xs LL (d + 1) 216 [.ref 5] h (some (.int 1)) h := by
  refine am_XR (d := d + 0) (C := cd_J0_isLatin1_aae02) (L := [some (.ref 5)]) rfl rfl rfl rfl ?_
  refine am_g 6 14 [some (.ref 5)] [.int 1] h rfl ?_
  refine am_g 1 18 [some (.ref 5)] [.int 1] h rfl ?_
  exact am_ret2 rfl rfl rfl rfl rfl
theorem sp_J0_length_8abf5_5 (d : Nat) (h : am_H) : am_X xs LL (d + 2) 212 [.ref 5] h (some (.int 4)) h := by
  refine am_XR (d := d + 1) (C := cd_J0_length_8abf5) (L := [some (.ref 5)]) rfl rfl rfl rfl ?_
  refine am_g 4 6 [some (.ref 5)] [.ref 5, .int 4] h rfl ?_
  refine am_call (y := 215) (vs := [.ref 5]) (rest := [.int 4]) (v := (some (.int 0))) (h1 := h) rfl rfl rfl (sp_J0_coder_7d493_5 d _) ?_
  refine am_g 1 10 [some (.ref 5)] [.int 4] h rfl ?_
  exact am_ret2 rfl rfl rfl rfl rfl
theorem sp_J0_coder_7d493_6 (d : Nat) (h : am_H) : am_X xs LL (d + 1) 215 [.ref 6] h (some (.int 0)) h := by
  refine am_XR (d := d + 0) (C := cd_J0_coder_7d493) (L := [some (.ref 6)]) rfl rfl rfl rfl ?_
  refine am_g 5 14 [some (.ref 6)] [.int 0] h rfl ?_
  exact am_ret2 rfl rfl rfl rfl rfl
theorem sp_J0_isLatin1_aae02_6 (d : Nat) (h : am_H) : am_X xs LL (d + 1) 216 [.ref 6] h (some (.int 1)) h := by
  refine am_XR (d := d + 0) (C := cd_J0_isLatin1_aae02) (L := [some (.ref 6)]) rfl rfl rfl rfl ?_
  refine am_g 6 14 [some (.ref 6)] [.int 1] h rfl ?_
  refine am_g 1 18 [some (.ref 6)] [.int 1] h rfl ?_
  exact am_ret2 rfl rfl rfl rfl rfl
theorem sp_J0_length_8abf5_6 (d : Nat) (h : am_H) : am_X xs LL (d + 2) 212 [.ref 6] h (some (.int 3)) h := by
  refine am_XR (d := d + 1) (C := cd_J0_length_8abf5) (L := [some (.ref 6)]) rfl rfl rfl rfl ?_
  refine am_g 4 6 [some (.ref 6)] [.ref 6, .int 3] h rfl ?_
  refine am_call (y := 215) (vs := [.ref 6]) (rest := [.int 3]) (v := (some (.int 0))) (h1 := h) rfl rfl rfl (sp_J0_coder_7d493_6 d _) ?_
  refine am_g 1 10 [some (.ref 6)] [.int 3] h rfl ?_
  exact am_ret2 rfl rfl rfl rfl rfl
theorem sp_J3_checkIndex_8e157_0_5 (d : Nat) (h : am_H) : am_X xs LL (d + 1) 223 [.int 0, .int 5, .retAddr 0] h (some (.int 0)) h := by
  refine am_XR (d := d + 0) (C := cd_J3_checkIndex_8e157) (L := [some (.int 0), some (.int 5), some (.retAddr 0)]) rfl rfl rfl rfl ?_
  refine am_g 6 17 [some (.int 0), some (.int 5), some (.retAddr 0)] [.int 0] h rfl ?_
  exact am_ret2 rfl rfl rfl rfl rfl
theorem sp_J0_checkIndex_df160_0_5 (d : Nat) (h : am_H) : am_X xs LL (d + 2) 218 [.int 0, .int 5] h none h := by
  refine am_XR (d := d + 1) (C := cd_J0_checkIndex_df160) (L := [some (.int 0), some (.int 5)]) rfl rfl rfl rfl ?_
  refine am_g 3 5 [some (.int 0), some (.int 5)] [.retAddr 0, .int 5, .int 0] h rfl ?_
  refine am_call (y := 223) (vs := [.int 0, .int 5, .retAddr 0]) (rest := []) (v := (some (.int 0))) (h1 := h) rfl rfl rfl (sp_J3_checkIndex_8e157_0_5 d _) ?_
  refine am_g 1 9 [some (.int 0), some (.int 5)] [] h rfl ?_
  exact am_ret2 rfl rfl rfl rfl rfl
theorem sp_J1_charAt_3b067_1_0 (d : Nat) (h : am_H) : am_X xs LL (d + 3) 219 [.ref 7, .int 0] h (some (.int 120)) h := by
  refine am_XR (d := d + 2) (C := cd_J1_charAt_3b067) (L := [some (.ref 7), some (.int 0)]) rfl rfl rfl rfl ?_
  refine am_g 3 3 [some (.ref 7), some (.int 0)] [.int 5, .int 0] h rfl ?_
  refine am_call (y := 218) (vs := [.int 0, .int 5]) (rest := []) (v := none) (h1 := h) rfl rfl rfl (sp_J0_checkIndex_df160_0_5 d _) ?_
  refine am_g 6 14 [some (.ref 7), some (.int 0)] [.int 120] h rfl ?_
  exact am_ret2 rfl rfl rfl rfl rfl
theorem sp_J0_charAt_5068e_1_0 (d : Nat) (h : am_H) : am_X xs LL (d + 4) 213 [.ref 1, .int 0] h (some (.int 120)) h := by
  refine am_XR (d := d + 3) (C := cd_J0_charAt_5068e) (L := [some (.ref 1), some (.int 0)]) rfl rfl rfl rfl ?_
  refine am_g 1 1 [some (.ref 1), some (.int 0)] [.ref 1] h rfl ?_
  refine am_call (y := 216) (vs := [.ref 1]) (rest := []) (v := (some (.int 1))) (h1 := h) rfl rfl rfl (sp_J0_isLatin1_aae02_1 (d + 2) _) ?_
  refine am_g 4 12 [some (.ref 1), some (.int 0)] [.int 0, .ref 7] h rfl ?_
  refine am_call (y := 219) (vs := [.ref 7, .int 0]) (rest := []) (v := (some (.int 120))) (h1 := h) rfl rfl rfl (sp_J1_charAt_3b067_1_0 d _) ?_
  exact am_ret2 rfl rfl rfl rfl rfl
theorem sp_J3_checkIndex_8e157_1_5 (d : Nat) (h : am_H) : am_X xs LL (d + 1) 223 [.int 1, .int 5, .retAddr 0] h (some (.int 1)) h := by
  refine am_XR (d := d + 0) (C := cd_J3_checkIndex_8e157) (L := [some (.int 1), some (.int 5), some (.retAddr 0)]) rfl rfl rfl rfl ?_
  refine am_g 6 17 [some (.int 1), some (.int 5), some (.retAddr 0)] [.int 1] h rfl ?_
  exact am_ret2 rfl rfl rfl rfl rfl
theorem sp_J0_checkIndex_df160_1_5 (d : Nat) (h : am_H) : am_X xs LL (d + 2) 218 [.int 1, .int 5] h none h := by
  refine am_XR (d := d + 1) (C := cd_J0_checkIndex_df160) (L := [some (.int 1), some (.int 5)]) rfl rfl rfl rfl ?_
  refine am_g 3 5 [some (.int 1), some (.int 5)] [.retAddr 0, .int 5, .int 1] h rfl ?_
  refine am_call (y := 223) (vs := [.int 1, .int 5, .retAddr 0]) (rest := []) (v := (some (.int 1))) (h1 := h) rfl rfl rfl (sp_J3_checkIndex_8e157_1_5 d _) ?_
  refine am_g 1 9 [some (.int 1), some (.int 5)] [] h rfl ?_
  exact am_ret2 rfl rfl rfl rfl rfl
theorem sp_J1_charAt_3b067_1_1 (d : Nat) (h : am_H) : am_X xs LL (d + 3) 219 [.ref 7, .int 1] h (some (.int 61)) h := by
  refine am_XR (d := d + 2) (C := cd_J1_charAt_3b067) (L := [some (.ref 7), some (.int 1)]) rfl rfl rfl rfl ?_
  refine am_g 3 3 [some (.ref 7), some (.int 1)] [.int 5, .int 1] h rfl ?_
  refine am_call (y := 218) (vs := [.int 1, .int 5]) (rest := []) (v := none) (h1 := h) rfl rfl rfl (sp_J0_checkIndex_df160_1_5 d _) ?_
  refine am_g 6 14 [some (.ref 7), some (.int 1)] [.int 61] h rfl ?_
  exact am_ret2 rfl rfl rfl rfl rfl
theorem sp_J0_charAt_5068e_1_1 (d : Nat) (h : am_H) : am_X xs LL (d + 4) 213 [.ref 1, .int 1] h (some (.int 61)) h := by
  refine am_XR (d := d + 3) (C := cd_J0_charAt_5068e) (L := [some (.ref 1), some (.int 1)]) rfl rfl rfl rfl ?_
  refine am_g 1 1 [some (.ref 1), some (.int 1)] [.ref 1] h rfl ?_
  refine am_call (y := 216) (vs := [.ref 1]) (rest := []) (v := (some (.int 1))) (h1 := h) rfl rfl rfl (sp_J0_isLatin1_aae02_1 (d + 2) _) ?_
  refine am_g 4 12 [some (.ref 1), some (.int 1)] [.int 1, .ref 7] h rfl ?_
  refine am_call (y := 219) (vs := [.ref 7, .int 1]) (rest := []) (v := (some (.int 61))) (h1 := h) rfl rfl rfl (sp_J1_charAt_3b067_1_1 d _) ?_
  exact am_ret2 rfl rfl rfl rfl rfl
theorem sp_J3_checkIndex_8e157_2_5 (d : Nat) (h : am_H) : am_X xs LL (d + 1) 223 [.int 2, .int 5, .retAddr 0] h (some (.int 2)) h := by
  refine am_XR (d := d + 0) (C := cd_J3_checkIndex_8e157) (L := [some (.int 2), some (.int 5), some (.retAddr 0)]) rfl rfl rfl rfl ?_
  refine am_g 6 17 [some (.int 2), some (.int 5), some (.retAddr 0)] [.int 2] h rfl ?_
  exact am_ret2 rfl rfl rfl rfl rfl
theorem sp_J0_checkIndex_df160_2_5 (d : Nat) (h : am_H) : am_X xs LL (d + 2) 218 [.int 2, .int 5] h none h := by
  refine am_XR (d := d + 1) (C := cd_J0_checkIndex_df160) (L := [some (.int 2), some (.int 5)]) rfl rfl rfl rfl ?_
  refine am_g 3 5 [some (.int 2), some (.int 5)] [.retAddr 0, .int 5, .int 2] h rfl ?_
  refine am_call (y := 223) (vs := [.int 2, .int 5, .retAddr 0]) (rest := []) (v := (some (.int 2))) (h1 := h) rfl rfl rfl (sp_J3_checkIndex_8e157_2_5 d _) ?_
  refine am_g 1 9 [some (.int 2), some (.int 5)] [] h rfl ?_
  exact am_ret2 rfl rfl rfl rfl rfl
theorem sp_J1_charAt_3b067_1_2 (d : Nat) (h : am_H) : am_X xs LL (d + 3) 219 [.ref 7, .int 2] h (some (.int 121)) h := by
  refine am_XR (d := d + 2) (C := cd_J1_charAt_3b067) (L := [some (.ref 7), some (.int 2)]) rfl rfl rfl rfl ?_
  refine am_g 3 3 [some (.ref 7), some (.int 2)] [.int 5, .int 2] h rfl ?_
  refine am_call (y := 218) (vs := [.int 2, .int 5]) (rest := []) (v := none) (h1 := h) rfl rfl rfl (sp_J0_checkIndex_df160_2_5 d _) ?_
  refine am_g 6 14 [some (.ref 7), some (.int 2)] [.int 121] h rfl ?_
  exact am_ret2 rfl rfl rfl rfl rfl
theorem sp_J0_charAt_5068e_1_2 (d : Nat) (h : am_H) : am_X xs LL (d + 4) 213 [.ref 1, .int 2] h (some (.int 121)) h := by
  refine am_XR (d := d + 3) (C := cd_J0_charAt_5068e) (L := [some (.ref 1), some (.int 2)]) rfl rfl rfl rfl ?_
  refine am_g 1 1 [some (.ref 1), some (.int 2)] [.ref 1] h rfl ?_
  refine am_call (y := 216) (vs := [.ref 1]) (rest := []) (v := (some (.int 1))) (h1 := h) rfl rfl rfl (sp_J0_isLatin1_aae02_1 (d + 2) _) ?_
  refine am_g 4 12 [some (.ref 1), some (.int 2)] [.int 2, .ref 7] h rfl ?_
  refine am_call (y := 219) (vs := [.ref 7, .int 2]) (rest := []) (v := (some (.int 121))) (h1 := h) rfl rfl rfl (sp_J1_charAt_3b067_1_2 d _) ?_
  exact am_ret2 rfl rfl rfl rfl rfl
theorem sp_J3_checkIndex_8e157_3_5 (d : Nat) (h : am_H) : am_X xs LL (d + 1) 223 [.int 3, .int 5, .retAddr 0] h (some (.int 3)) h := by
  refine am_XR (d := d + 0) (C := cd_J3_checkIndex_8e157) (L := [some (.int 3), some (.int 5), some (.retAddr 0)]) rfl rfl rfl rfl ?_
  refine am_g 6 17 [some (.int 3), some (.int 5), some (.retAddr 0)] [.int 3] h rfl ?_
  exact am_ret2 rfl rfl rfl rfl rfl
theorem sp_J0_checkIndex_df160_3_5 (d : Nat) (h : am_H) : am_X xs LL (d + 2) 218 [.int 3, .int 5] h none h := by
  refine am_XR (d := d + 1) (C := cd_J0_checkIndex_df160) (L := [some (.int 3), some (.int 5)]) rfl rfl rfl rfl ?_
  refine am_g 3 5 [some (.int 3), some (.int 5)] [.retAddr 0, .int 5, .int 3] h rfl ?_
  refine am_call (y := 223) (vs := [.int 3, .int 5, .retAddr 0]) (rest := []) (v := (some (.int 3))) (h1 := h) rfl rfl rfl (sp_J3_checkIndex_8e157_3_5 d _) ?_
  refine am_g 1 9 [some (.int 3), some (.int 5)] [] h rfl ?_
  exact am_ret2 rfl rfl rfl rfl rfl
theorem sp_J1_charAt_3b067_1_3 (d : Nat) (h : am_H) : am_X xs LL (d + 3) 219 [.ref 7, .int 3] h (some (.int 47)) h := by
  refine am_XR (d := d + 2) (C := cd_J1_charAt_3b067) (L := [some (.ref 7), some (.int 3)]) rfl rfl rfl rfl ?_
  refine am_g 3 3 [some (.ref 7), some (.int 3)] [.int 5, .int 3] h rfl ?_
  refine am_call (y := 218) (vs := [.int 3, .int 5]) (rest := []) (v := none) (h1 := h) rfl rfl rfl (sp_J0_checkIndex_df160_3_5 d _) ?_
  refine am_g 6 14 [some (.ref 7), some (.int 3)] [.int 47] h rfl ?_
  exact am_ret2 rfl rfl rfl rfl rfl
theorem sp_J0_charAt_5068e_1_3 (d : Nat) (h : am_H) : am_X xs LL (d + 4) 213 [.ref 1, .int 3] h (some (.int 47)) h := by
  refine am_XR (d := d + 3) (C := cd_J0_charAt_5068e) (L := [some (.ref 1), some (.int 3)]) rfl rfl rfl rfl ?_
  refine am_g 1 1 [some (.ref 1), some (.int 3)] [.ref 1] h rfl ?_
  refine am_call (y := 216) (vs := [.ref 1]) (rest := []) (v := (some (.int 1))) (h1 := h) rfl rfl rfl (sp_J0_isLatin1_aae02_1 (d + 2) _) ?_
  refine am_g 4 12 [some (.ref 1), some (.int 3)] [.int 3, .ref 7] h rfl ?_
  refine am_call (y := 219) (vs := [.ref 7, .int 3]) (rest := []) (v := (some (.int 47))) (h1 := h) rfl rfl rfl (sp_J1_charAt_3b067_1_3 d _) ?_
  exact am_ret2 rfl rfl rfl rfl rfl
theorem sp_J3_checkIndex_8e157_4_5 (d : Nat) (h : am_H) : am_X xs LL (d + 1) 223 [.int 4, .int 5, .retAddr 0] h (some (.int 4)) h := by
  refine am_XR (d := d + 0) (C := cd_J3_checkIndex_8e157) (L := [some (.int 4), some (.int 5), some (.retAddr 0)]) rfl rfl rfl rfl ?_
  refine am_g 6 17 [some (.int 4), some (.int 5), some (.retAddr 0)] [.int 4] h rfl ?_
  exact am_ret2 rfl rfl rfl rfl rfl
theorem sp_J0_checkIndex_df160_4_5 (d : Nat) (h : am_H) : am_X xs LL (d + 2) 218 [.int 4, .int 5] h none h := by
  refine am_XR (d := d + 1) (C := cd_J0_checkIndex_df160) (L := [some (.int 4), some (.int 5)]) rfl rfl rfl rfl ?_
  refine am_g 3 5 [some (.int 4), some (.int 5)] [.retAddr 0, .int 5, .int 4] h rfl ?_
  refine am_call (y := 223) (vs := [.int 4, .int 5, .retAddr 0]) (rest := []) (v := (some (.int 4))) (h1 := h) rfl rfl rfl (sp_J3_checkIndex_8e157_4_5 d _) ?_
  refine am_g 1 9 [some (.int 4), some (.int 5)] [] h rfl ?_
  exact am_ret2 rfl rfl rfl rfl rfl
theorem sp_J1_charAt_3b067_1_4 (d : Nat) (h : am_H) : am_X xs LL (d + 3) 219 [.ref 7, .int 4] h (some (.int 55)) h := by
  refine am_XR (d := d + 2) (C := cd_J1_charAt_3b067) (L := [some (.ref 7), some (.int 4)]) rfl rfl rfl rfl ?_
  refine am_g 3 3 [some (.ref 7), some (.int 4)] [.int 5, .int 4] h rfl ?_
  refine am_call (y := 218) (vs := [.int 4, .int 5]) (rest := []) (v := none) (h1 := h) rfl rfl rfl (sp_J0_checkIndex_df160_4_5 d _) ?_
  refine am_g 6 14 [some (.ref 7), some (.int 4)] [.int 55] h rfl ?_
  exact am_ret2 rfl rfl rfl rfl rfl
theorem sp_J0_charAt_5068e_1_4 (d : Nat) (h : am_H) : am_X xs LL (d + 4) 213 [.ref 1, .int 4] h (some (.int 55)) h := by
  refine am_XR (d := d + 3) (C := cd_J0_charAt_5068e) (L := [some (.ref 1), some (.int 4)]) rfl rfl rfl rfl ?_
  refine am_g 1 1 [some (.ref 1), some (.int 4)] [.ref 1] h rfl ?_
  refine am_call (y := 216) (vs := [.ref 1]) (rest := []) (v := (some (.int 1))) (h1 := h) rfl rfl rfl (sp_J0_isLatin1_aae02_1 (d + 2) _) ?_
  refine am_g 4 12 [some (.ref 1), some (.int 4)] [.int 4, .ref 7] h rfl ?_
  refine am_call (y := 219) (vs := [.ref 7, .int 4]) (rest := []) (v := (some (.int 55))) (h1 := h) rfl rfl rfl (sp_J1_charAt_3b067_1_4 d _) ?_
  exact am_ret2 rfl rfl rfl rfl rfl
theorem sp_J1_charAt_3b067_2_0 (d : Nat) (h : am_H) : am_X xs LL (d + 3) 219 [.ref 8, .int 0] h (some (.int 120)) h := by
  refine am_XR (d := d + 2) (C := cd_J1_charAt_3b067) (L := [some (.ref 8), some (.int 0)]) rfl rfl rfl rfl ?_
  refine am_g 3 3 [some (.ref 8), some (.int 0)] [.int 5, .int 0] h rfl ?_
  refine am_call (y := 218) (vs := [.int 0, .int 5]) (rest := []) (v := none) (h1 := h) rfl rfl rfl (sp_J0_checkIndex_df160_0_5 d _) ?_
  refine am_g 6 14 [some (.ref 8), some (.int 0)] [.int 120] h rfl ?_
  exact am_ret2 rfl rfl rfl rfl rfl
theorem sp_J0_charAt_5068e_2_0 (d : Nat) (h : am_H) : am_X xs LL (d + 4) 213 [.ref 2, .int 0] h (some (.int 120)) h := by
  refine am_XR (d := d + 3) (C := cd_J0_charAt_5068e) (L := [some (.ref 2), some (.int 0)]) rfl rfl rfl rfl ?_
  refine am_g 1 1 [some (.ref 2), some (.int 0)] [.ref 2] h rfl ?_
  refine am_call (y := 216) (vs := [.ref 2]) (rest := []) (v := (some (.int 1))) (h1 := h) rfl rfl rfl (sp_J0_isLatin1_aae02_2 (d + 2) _) ?_
  refine am_g 4 12 [some (.ref 2), some (.int 0)] [.int 0, .ref 8] h rfl ?_
  refine am_call (y := 219) (vs := [.ref 8, .int 0]) (rest := []) (v := (some (.int 120))) (h1 := h) rfl rfl rfl (sp_J1_charAt_3b067_2_0 d _) ?_
  exact am_ret2 rfl rfl rfl rfl rfl
theorem sp_J1_charAt_3b067_2_1 (d : Nat) (h : am_H) : am_X xs LL (d + 3) 219 [.ref 8, .int 1] h (some (.int 61)) h := by
  refine am_XR (d := d + 2) (C := cd_J1_charAt_3b067) (L := [some (.ref 8), some (.int 1)]) rfl rfl rfl rfl ?_
  refine am_g 3 3 [some (.ref 8), some (.int 1)] [.int 5, .int 1] h rfl ?_
  refine am_call (y := 218) (vs := [.int 1, .int 5]) (rest := []) (v := none) (h1 := h) rfl rfl rfl (sp_J0_checkIndex_df160_1_5 d _) ?_
  refine am_g 6 14 [some (.ref 8), some (.int 1)] [.int 61] h rfl ?_
  exact am_ret2 rfl rfl rfl rfl rfl
theorem sp_J0_charAt_5068e_2_1 (d : Nat) (h : am_H) : am_X xs LL (d + 4) 213 [.ref 2, .int 1] h (some (.int 61)) h := by
  refine am_XR (d := d + 3) (C := cd_J0_charAt_5068e) (L := [some (.ref 2), some (.int 1)]) rfl rfl rfl rfl ?_
  refine am_g 1 1 [some (.ref 2), some (.int 1)] [.ref 2] h rfl ?_
  refine am_call (y := 216) (vs := [.ref 2]) (rest := []) (v := (some (.int 1))) (h1 := h) rfl rfl rfl (sp_J0_isLatin1_aae02_2 (d + 2) _) ?_
  refine am_g 4 12 [some (.ref 2), some (.int 1)] [.int 1, .ref 8] h rfl ?_
  refine am_call (y := 219) (vs := [.ref 8, .int 1]) (rest := []) (v := (some (.int 61))) (h1 := h) rfl rfl rfl (sp_J1_charAt_3b067_2_1 d _) ?_
  exact am_ret2 rfl rfl rfl rfl rfl
theorem sp_J1_charAt_3b067_2_2 (d : Nat) (h : am_H) : am_X xs LL (d + 3) 219 [.ref 8, .int 2] h (some (.int 121)) h := by
  refine am_XR (d := d + 2) (C := cd_J1_charAt_3b067) (L := [some (.ref 8), some (.int 2)]) rfl rfl rfl rfl ?_
  refine am_g 3 3 [some (.ref 8), some (.int 2)] [.int 5, .int 2] h rfl ?_
  refine am_call (y := 218) (vs := [.int 2, .int 5]) (rest := []) (v := none) (h1 := h) rfl rfl rfl (sp_J0_checkIndex_df160_2_5 d _) ?_
  refine am_g 6 14 [some (.ref 8), some (.int 2)] [.int 121] h rfl ?_
  exact am_ret2 rfl rfl rfl rfl rfl
theorem sp_J0_charAt_5068e_2_2 (d : Nat) (h : am_H) : am_X xs LL (d + 4) 213 [.ref 2, .int 2] h (some (.int 121)) h := by
  refine am_XR (d := d + 3) (C := cd_J0_charAt_5068e) (L := [some (.ref 2), some (.int 2)]) rfl rfl rfl rfl ?_
  refine am_g 1 1 [some (.ref 2), some (.int 2)] [.ref 2] h rfl ?_
  refine am_call (y := 216) (vs := [.ref 2]) (rest := []) (v := (some (.int 1))) (h1 := h) rfl rfl rfl (sp_J0_isLatin1_aae02_2 (d + 2) _) ?_
  refine am_g 4 12 [some (.ref 2), some (.int 2)] [.int 2, .ref 8] h rfl ?_
  refine am_call (y := 219) (vs := [.ref 8, .int 2]) (rest := []) (v := (some (.int 121))) (h1 := h) rfl rfl rfl (sp_J1_charAt_3b067_2_2 d _) ?_
  exact am_ret2 rfl rfl rfl rfl rfl
theorem sp_J1_charAt_3b067_2_3 (d : Nat) (h : am_H) : am_X xs LL (d + 3) 219 [.ref 8, .int 3] h (some (.int 46)) h := by
  refine am_XR (d := d + 2) (C := cd_J1_charAt_3b067) (L := [some (.ref 8), some (.int 3)]) rfl rfl rfl rfl ?_
  refine am_g 3 3 [some (.ref 8), some (.int 3)] [.int 5, .int 3] h rfl ?_
  refine am_call (y := 218) (vs := [.int 3, .int 5]) (rest := []) (v := none) (h1 := h) rfl rfl rfl (sp_J0_checkIndex_df160_3_5 d _) ?_
  refine am_g 6 14 [some (.ref 8), some (.int 3)] [.int 46] h rfl ?_
  exact am_ret2 rfl rfl rfl rfl rfl
theorem sp_J0_charAt_5068e_2_3 (d : Nat) (h : am_H) : am_X xs LL (d + 4) 213 [.ref 2, .int 3] h (some (.int 46)) h := by
  refine am_XR (d := d + 3) (C := cd_J0_charAt_5068e) (L := [some (.ref 2), some (.int 3)]) rfl rfl rfl rfl ?_
  refine am_g 1 1 [some (.ref 2), some (.int 3)] [.ref 2] h rfl ?_
  refine am_call (y := 216) (vs := [.ref 2]) (rest := []) (v := (some (.int 1))) (h1 := h) rfl rfl rfl (sp_J0_isLatin1_aae02_2 (d + 2) _) ?_
  refine am_g 4 12 [some (.ref 2), some (.int 3)] [.int 3, .ref 8] h rfl ?_
  refine am_call (y := 219) (vs := [.ref 8, .int 3]) (rest := []) (v := (some (.int 46))) (h1 := h) rfl rfl rfl (sp_J1_charAt_3b067_2_3 d _) ?_
  exact am_ret2 rfl rfl rfl rfl rfl
theorem sp_J1_charAt_3b067_2_4 (d : Nat) (h : am_H) : am_X xs LL (d + 3) 219 [.ref 8, .int 4] h (some (.int 50)) h := by
  refine am_XR (d := d + 2) (C := cd_J1_charAt_3b067) (L := [some (.ref 8), some (.int 4)]) rfl rfl rfl rfl ?_
  refine am_g 3 3 [some (.ref 8), some (.int 4)] [.int 5, .int 4] h rfl ?_
  refine am_call (y := 218) (vs := [.int 4, .int 5]) (rest := []) (v := none) (h1 := h) rfl rfl rfl (sp_J0_checkIndex_df160_4_5 d _) ?_
  refine am_g 6 14 [some (.ref 8), some (.int 4)] [.int 50] h rfl ?_
  exact am_ret2 rfl rfl rfl rfl rfl
theorem sp_J0_charAt_5068e_2_4 (d : Nat) (h : am_H) : am_X xs LL (d + 4) 213 [.ref 2, .int 4] h (some (.int 50)) h := by
  refine am_XR (d := d + 3) (C := cd_J0_charAt_5068e) (L := [some (.ref 2), some (.int 4)]) rfl rfl rfl rfl ?_
  refine am_g 1 1 [some (.ref 2), some (.int 4)] [.ref 2] h rfl ?_
  refine am_call (y := 216) (vs := [.ref 2]) (rest := []) (v := (some (.int 1))) (h1 := h) rfl rfl rfl (sp_J0_isLatin1_aae02_2 (d + 2) _) ?_
  refine am_g 4 12 [some (.ref 2), some (.int 4)] [.int 4, .ref 8] h rfl ?_
  refine am_call (y := 219) (vs := [.ref 8, .int 4]) (rest := []) (v := (some (.int 50))) (h1 := h) rfl rfl rfl (sp_J1_charAt_3b067_2_4 d _) ?_
  exact am_ret2 rfl rfl rfl rfl rfl
theorem sp_J1_charAt_3b067_3_0 (d : Nat) (h : am_H) : am_X xs LL (d + 3) 219 [.ref 9, .int 0] h (some (.int 120)) h := by
  refine am_XR (d := d + 2) (C := cd_J1_charAt_3b067) (L := [some (.ref 9), some (.int 0)]) rfl rfl rfl rfl ?_
  refine am_g 3 3 [some (.ref 9), some (.int 0)] [.int 5, .int 0] h rfl ?_
  refine am_call (y := 218) (vs := [.int 0, .int 5]) (rest := []) (v := none) (h1 := h) rfl rfl rfl (sp_J0_checkIndex_df160_0_5 d _) ?_
  refine am_g 6 14 [some (.ref 9), some (.int 0)] [.int 120] h rfl ?_
  exact am_ret2 rfl rfl rfl rfl rfl
theorem sp_J0_charAt_5068e_3_0 (d : Nat) (h : am_H) : am_X xs LL (d + 4) 213 [.ref 3, .int 0] h (some (.int 120)) h := by
  refine am_XR (d := d + 3) (C := cd_J0_charAt_5068e) (L := [some (.ref 3), some (.int 0)]) rfl rfl rfl rfl ?_
  refine am_g 1 1 [some (.ref 3), some (.int 0)] [.ref 3] h rfl ?_
  refine am_call (y := 216) (vs := [.ref 3]) (rest := []) (v := (some (.int 1))) (h1 := h) rfl rfl rfl (sp_J0_isLatin1_aae02_3 (d + 2) _) ?_
  refine am_g 4 12 [some (.ref 3), some (.int 0)] [.int 0, .ref 9] h rfl ?_
  refine am_call (y := 219) (vs := [.ref 9, .int 0]) (rest := []) (v := (some (.int 120))) (h1 := h) rfl rfl rfl (sp_J1_charAt_3b067_3_0 d _) ?_
  exact am_ret2 rfl rfl rfl rfl rfl
theorem sp_J1_charAt_3b067_3_1 (d : Nat) (h : am_H) : am_X xs LL (d + 3) 219 [.ref 9, .int 1] h (some (.int 46)) h := by
  refine am_XR (d := d + 2) (C := cd_J1_charAt_3b067) (L := [some (.ref 9), some (.int 1)]) rfl rfl rfl rfl ?_
  refine am_g 3 3 [some (.ref 9), some (.int 1)] [.int 5, .int 1] h rfl ?_
  refine am_call (y := 218) (vs := [.int 1, .int 5]) (rest := []) (v := none) (h1 := h) rfl rfl rfl (sp_J0_checkIndex_df160_1_5 d _) ?_
  refine am_g 6 14 [some (.ref 9), some (.int 1)] [.int 46] h rfl ?_
  exact am_ret2 rfl rfl rfl rfl rfl
theorem sp_J0_charAt_5068e_3_1 (d : Nat) (h : am_H) : am_X xs LL (d + 4) 213 [.ref 3, .int 1] h (some (.int 46)) h := by
  refine am_XR (d := d + 3) (C := cd_J0_charAt_5068e) (L := [some (.ref 3), some (.int 1)]) rfl rfl rfl rfl ?_
  refine am_g 1 1 [some (.ref 3), some (.int 1)] [.ref 3] h rfl ?_
  refine am_call (y := 216) (vs := [.ref 3]) (rest := []) (v := (some (.int 1))) (h1 := h) rfl rfl rfl (sp_J0_isLatin1_aae02_3 (d + 2) _) ?_
  refine am_g 4 12 [some (.ref 3), some (.int 1)] [.int 1, .ref 9] h rfl ?_
  refine am_call (y := 219) (vs := [.ref 9, .int 1]) (rest := []) (v := (some (.int 46))) (h1 := h) rfl rfl rfl (sp_J1_charAt_3b067_3_1 d _) ?_
  exact am_ret2 rfl rfl rfl rfl rfl
theorem sp_J1_charAt_3b067_3_2 (d : Nat) (h : am_H) : am_X xs LL (d + 3) 219 [.ref 9, .int 2] h (some (.int 50)) h := by
  refine am_XR (d := d + 2) (C := cd_J1_charAt_3b067) (L := [some (.ref 9), some (.int 2)]) rfl rfl rfl rfl ?_
  refine am_g 3 3 [some (.ref 9), some (.int 2)] [.int 5, .int 2] h rfl ?_
  refine am_call (y := 218) (vs := [.int 2, .int 5]) (rest := []) (v := none) (h1 := h) rfl rfl rfl (sp_J0_checkIndex_df160_2_5 d _) ?_
  refine am_g 6 14 [some (.ref 9), some (.int 2)] [.int 50] h rfl ?_
  exact am_ret2 rfl rfl rfl rfl rfl
theorem sp_J0_charAt_5068e_3_2 (d : Nat) (h : am_H) : am_X xs LL (d + 4) 213 [.ref 3, .int 2] h (some (.int 50)) h := by
  refine am_XR (d := d + 3) (C := cd_J0_charAt_5068e) (L := [some (.ref 3), some (.int 2)]) rfl rfl rfl rfl ?_
  refine am_g 1 1 [some (.ref 3), some (.int 2)] [.ref 3] h rfl ?_
  refine am_call (y := 216) (vs := [.ref 3]) (rest := []) (v := (some (.int 1))) (h1 := h) rfl rfl rfl (sp_J0_isLatin1_aae02_3 (d + 2) _) ?_
  refine am_g 4 12 [some (.ref 3), some (.int 2)] [.int 2, .ref 9] h rfl ?_
  refine am_call (y := 219) (vs := [.ref 9, .int 2]) (rest := []) (v := (some (.int 50))) (h1 := h) rfl rfl rfl (sp_J1_charAt_3b067_3_2 d _) ?_
  exact am_ret2 rfl rfl rfl rfl rfl
theorem sp_J1_charAt_3b067_3_3 (d : Nat) (h : am_H) : am_X xs LL (d + 3) 219 [.ref 9, .int 3] h (some (.int 61)) h := by
  refine am_XR (d := d + 2) (C := cd_J1_charAt_3b067) (L := [some (.ref 9), some (.int 3)]) rfl rfl rfl rfl ?_
  refine am_g 3 3 [some (.ref 9), some (.int 3)] [.int 5, .int 3] h rfl ?_
  refine am_call (y := 218) (vs := [.int 3, .int 5]) (rest := []) (v := none) (h1 := h) rfl rfl rfl (sp_J0_checkIndex_df160_3_5 d _) ?_
  refine am_g 6 14 [some (.ref 9), some (.int 3)] [.int 61] h rfl ?_
  exact am_ret2 rfl rfl rfl rfl rfl
theorem sp_J0_charAt_5068e_3_3 (d : Nat) (h : am_H) : am_X xs LL (d + 4) 213 [.ref 3, .int 3] h (some (.int 61)) h := by
  refine am_XR (d := d + 3) (C := cd_J0_charAt_5068e) (L := [some (.ref 3), some (.int 3)]) rfl rfl rfl rfl ?_
  refine am_g 1 1 [some (.ref 3), some (.int 3)] [.ref 3] h rfl ?_
  refine am_call (y := 216) (vs := [.ref 3]) (rest := []) (v := (some (.int 1))) (h1 := h) rfl rfl rfl (sp_J0_isLatin1_aae02_3 (d + 2) _) ?_
  refine am_g 4 12 [some (.ref 3), some (.int 3)] [.int 3, .ref 9] h rfl ?_
  refine am_call (y := 219) (vs := [.ref 9, .int 3]) (rest := []) (v := (some (.int 61))) (h1 := h) rfl rfl rfl (sp_J1_charAt_3b067_3_3 d _) ?_
  exact am_ret2 rfl rfl rfl rfl rfl
theorem sp_J1_charAt_3b067_3_4 (d : Nat) (h : am_H) : am_X xs LL (d + 3) 219 [.ref 9, .int 4] h (some (.int 121)) h := by
  refine am_XR (d := d + 2) (C := cd_J1_charAt_3b067) (L := [some (.ref 9), some (.int 4)]) rfl rfl rfl rfl ?_
  refine am_g 3 3 [some (.ref 9), some (.int 4)] [.int 5, .int 4] h rfl ?_
  refine am_call (y := 218) (vs := [.int 4, .int 5]) (rest := []) (v := none) (h1 := h) rfl rfl rfl (sp_J0_checkIndex_df160_4_5 d _) ?_
  refine am_g 6 14 [some (.ref 9), some (.int 4)] [.int 121] h rfl ?_
  exact am_ret2 rfl rfl rfl rfl rfl
theorem sp_J0_charAt_5068e_3_4 (d : Nat) (h : am_H) : am_X xs LL (d + 4) 213 [.ref 3, .int 4] h (some (.int 121)) h := by
  refine am_XR (d := d + 3) (C := cd_J0_charAt_5068e) (L := [some (.ref 3), some (.int 4)]) rfl rfl rfl rfl ?_
  refine am_g 1 1 [some (.ref 3), some (.int 4)] [.ref 3] h rfl ?_
  refine am_call (y := 216) (vs := [.ref 3]) (rest := []) (v := (some (.int 1))) (h1 := h) rfl rfl rfl (sp_J0_isLatin1_aae02_3 (d + 2) _) ?_
  refine am_g 4 12 [some (.ref 3), some (.int 4)] [.int 4, .ref 9] h rfl ?_
  refine am_call (y := 219) (vs := [.ref 9, .int 4]) (rest := []) (v := (some (.int 121))) (h1 := h) rfl rfl rfl (sp_J1_charAt_3b067_3_4 d _) ?_
  exact am_ret2 rfl rfl rfl rfl rfl
theorem sp_J3_checkIndex_8e157_0_8 (d : Nat) (h : am_H) : am_X xs LL (d + 1) 223 [.int 0, .int 8, .retAddr 0] h (some (.int 0)) h := by
  refine am_XR (d := d + 0) (C := cd_J3_checkIndex_8e157) (L := [some (.int 0), some (.int 8), some (.retAddr 0)]) rfl rfl rfl rfl ?_
  refine am_g 6 17 [some (.int 0), some (.int 8), some (.retAddr 0)] [.int 0] h rfl ?_
  exact am_ret2 rfl rfl rfl rfl rfl
theorem sp_J0_checkIndex_df160_0_8 (d : Nat) (h : am_H) : am_X xs LL (d + 2) 218 [.int 0, .int 8] h none h := by
  refine am_XR (d := d + 1) (C := cd_J0_checkIndex_df160) (L := [some (.int 0), some (.int 8)]) rfl rfl rfl rfl ?_
  refine am_g 3 5 [some (.int 0), some (.int 8)] [.retAddr 0, .int 8, .int 0] h rfl ?_
  refine am_call (y := 223) (vs := [.int 0, .int 8, .retAddr 0]) (rest := []) (v := (some (.int 0))) (h1 := h) rfl rfl rfl (sp_J3_checkIndex_8e157_0_8 d _) ?_
  refine am_g 1 9 [some (.int 0), some (.int 8)] [] h rfl ?_
  exact am_ret2 rfl rfl rfl rfl rfl
theorem sp_J1_charAt_3b067_4_0 (d : Nat) (h : am_H) : am_X xs LL (d + 3) 219 [.ref 10, .int 0] h (some (.int 120)) h := by
  refine am_XR (d := d + 2) (C := cd_J1_charAt_3b067) (L := [some (.ref 10), some (.int 0)]) rfl rfl rfl rfl ?_
  refine am_g 3 3 [some (.ref 10), some (.int 0)] [.int 8, .int 0] h rfl ?_
  refine am_call (y := 218) (vs := [.int 0, .int 8]) (rest := []) (v := none) (h1 := h) rfl rfl rfl (sp_J0_checkIndex_df160_0_8 d _) ?_
  refine am_g 6 14 [some (.ref 10), some (.int 0)] [.int 120] h rfl ?_
  exact am_ret2 rfl rfl rfl rfl rfl
theorem sp_J0_charAt_5068e_4_0 (d : Nat) (h : am_H) : am_X xs LL (d + 4) 213 [.ref 4, .int 0] h (some (.int 120)) h := by
  refine am_XR (d := d + 3) (C := cd_J0_charAt_5068e) (L := [some (.ref 4), some (.int 0)]) rfl rfl rfl rfl ?_
  refine am_g 1 1 [some (.ref 4), some (.int 0)] [.ref 4] h rfl ?_
  refine am_call (y := 216) (vs := [.ref 4]) (rest := []) (v := (some (.int 1))) (h1 := h) rfl rfl rfl (sp_J0_isLatin1_aae02_4 (d + 2) _) ?_
  refine am_g 4 12 [some (.ref 4), some (.int 0)] [.int 0, .ref 10] h rfl ?_
  refine am_call (y := 219) (vs := [.ref 10, .int 0]) (rest := []) (v := (some (.int 120))) (h1 := h) rfl rfl rfl (sp_J1_charAt_3b067_4_0 d _) ?_
  exact am_ret2 rfl rfl rfl rfl rfl
theorem sp_J3_checkIndex_8e157_1_8 (d : Nat) (h : am_H) : am_X xs LL (d + 1) 223 [.int 1, .int 8, .retAddr 0] h (some (.int 1)) h := by
  refine am_XR (d := d + 0) (C := cd_J3_checkIndex_8e157) (L := [some (.int 1), some (.int 8), some (.retAddr 0)]) rfl rfl rfl rfl ?_
  refine am_g 6 17 [some (.int 1), some (.int 8), some (.retAddr 0)] [.int 1] h rfl ?_
  exact am_ret2 rfl rfl rfl rfl rfl
theorem sp_J0_checkIndex_df160_1_8 (d : Nat) (h : am_H) : am_X xs LL (d + 2) 218 [.int 1, .int 8] h none h := by
  refine am_XR (d := d + 1) (C := cd_J0_checkIndex_df160) (L := [some (.int 1), some (.int 8)]) rfl rfl rfl rfl ?_
  refine am_g 3 5 [some (.int 1), some (.int 8)] [.retAddr 0, .int 8, .int 1] h rfl ?_
  refine am_call (y := 223) (vs := [.int 1, .int 8, .retAddr 0]) (rest := []) (v := (some (.int 1))) (h1 := h) rfl rfl rfl (sp_J3_checkIndex_8e157_1_8 d _) ?_
  refine am_g 1 9 [some (.int 1), some (.int 8)] [] h rfl ?_
  exact am_ret2 rfl rfl rfl rfl rfl
theorem sp_J1_charAt_3b067_4_1 (d : Nat) (h : am_H) : am_X xs LL (d + 3) 219 [.ref 10, .int 1] h (some (.int 61)) h := by
  refine am_XR (d := d + 2) (C := cd_J1_charAt_3b067) (L := [some (.ref 10), some (.int 1)]) rfl rfl rfl rfl ?_
  refine am_g 3 3 [some (.ref 10), some (.int 1)] [.int 8, .int 1] h rfl ?_
  refine am_call (y := 218) (vs := [.int 1, .int 8]) (rest := []) (v := none) (h1 := h) rfl rfl rfl (sp_J0_checkIndex_df160_1_8 d _) ?_
  refine am_g 6 14 [some (.ref 10), some (.int 1)] [.int 61] h rfl ?_
  exact am_ret2 rfl rfl rfl rfl rfl
theorem sp_J0_charAt_5068e_4_1 (d : Nat) (h : am_H) : am_X xs LL (d + 4) 213 [.ref 4, .int 1] h (some (.int 61)) h := by
  refine am_XR (d := d + 3) (C := cd_J0_charAt_5068e) (L := [some (.ref 4), some (.int 1)]) rfl rfl rfl rfl ?_
  refine am_g 1 1 [some (.ref 4), some (.int 1)] [.ref 4] h rfl ?_
  refine am_call (y := 216) (vs := [.ref 4]) (rest := []) (v := (some (.int 1))) (h1 := h) rfl rfl rfl (sp_J0_isLatin1_aae02_4 (d + 2) _) ?_
  refine am_g 4 12 [some (.ref 4), some (.int 1)] [.int 1, .ref 10] h rfl ?_
  refine am_call (y := 219) (vs := [.ref 10, .int 1]) (rest := []) (v := (some (.int 61))) (h1 := h) rfl rfl rfl (sp_J1_charAt_3b067_4_1 d _) ?_
  exact am_ret2 rfl rfl rfl rfl rfl
theorem sp_J3_checkIndex_8e157_2_8 (d : Nat) (h : am_H) : am_X xs LL (d + 1) 223 [.int 2, .int 8, .retAddr 0] h (some (.int 2)) h := by
  refine am_XR (d := d + 0) (C := cd_J3_checkIndex_8e157) (L := [some (.int 2), some (.int 8), some (.retAddr 0)]) rfl rfl rfl rfl ?_
  refine am_g 6 17 [some (.int 2), some (.int 8), some (.retAddr 0)] [.int 2] h rfl ?_
  exact am_ret2 rfl rfl rfl rfl rfl
theorem sp_J0_checkIndex_df160_2_8 (d : Nat) (h : am_H) : am_X xs LL (d + 2) 218 [.int 2, .int 8] h none h := by
  refine am_XR (d := d + 1) (C := cd_J0_checkIndex_df160) (L := [some (.int 2), some (.int 8)]) rfl rfl rfl rfl ?_
  refine am_g 3 5 [some (.int 2), some (.int 8)] [.retAddr 0, .int 8, .int 2] h rfl ?_
  refine am_call (y := 223) (vs := [.int 2, .int 8, .retAddr 0]) (rest := []) (v := (some (.int 2))) (h1 := h) rfl rfl rfl (sp_J3_checkIndex_8e157_2_8 d _) ?_
  refine am_g 1 9 [some (.int 2), some (.int 8)] [] h rfl ?_
  exact am_ret2 rfl rfl rfl rfl rfl
theorem sp_J1_charAt_3b067_4_2 (d : Nat) (h : am_H) : am_X xs LL (d + 3) 219 [.ref 10, .int 2] h (some (.int 121)) h := by
  refine am_XR (d := d + 2) (C := cd_J1_charAt_3b067) (L := [some (.ref 10), some (.int 2)]) rfl rfl rfl rfl ?_
  refine am_g 3 3 [some (.ref 10), some (.int 2)] [.int 8, .int 2] h rfl ?_
  refine am_call (y := 218) (vs := [.int 2, .int 8]) (rest := []) (v := none) (h1 := h) rfl rfl rfl (sp_J0_checkIndex_df160_2_8 d _) ?_
  refine am_g 6 14 [some (.ref 10), some (.int 2)] [.int 121] h rfl ?_
  exact am_ret2 rfl rfl rfl rfl rfl
theorem sp_J0_charAt_5068e_4_2 (d : Nat) (h : am_H) : am_X xs LL (d + 4) 213 [.ref 4, .int 2] h (some (.int 121)) h := by
  refine am_XR (d := d + 3) (C := cd_J0_charAt_5068e) (L := [some (.ref 4), some (.int 2)]) rfl rfl rfl rfl ?_
  refine am_g 1 1 [some (.ref 4), some (.int 2)] [.ref 4] h rfl ?_
  refine am_call (y := 216) (vs := [.ref 4]) (rest := []) (v := (some (.int 1))) (h1 := h) rfl rfl rfl (sp_J0_isLatin1_aae02_4 (d + 2) _) ?_
  refine am_g 4 12 [some (.ref 4), some (.int 2)] [.int 2, .ref 10] h rfl ?_
  refine am_call (y := 219) (vs := [.ref 10, .int 2]) (rest := []) (v := (some (.int 121))) (h1 := h) rfl rfl rfl (sp_J1_charAt_3b067_4_2 d _) ?_
  exact am_ret2 rfl rfl rfl rfl rfl
theorem sp_J3_checkIndex_8e157_3_8 (d : Nat) (h : am_H) : am_X xs LL (d + 1) 223 [.int 3, .int 8, .retAddr 0] h (some (.int 3)) h := by
  refine am_XR (d := d + 0) (C := cd_J3_checkIndex_8e157) (L := [some (.int 3), some (.int 8), some (.retAddr 0)]) rfl rfl rfl rfl ?_
  refine am_g 6 17 [some (.int 3), some (.int 8), some (.retAddr 0)] [.int 3] h rfl ?_
  exact am_ret2 rfl rfl rfl rfl rfl
theorem sp_J0_checkIndex_df160_3_8 (d : Nat) (h : am_H) : am_X xs LL (d + 2) 218 [.int 3, .int 8] h none h := by
  refine am_XR (d := d + 1) (C := cd_J0_checkIndex_df160) (L := [some (.int 3), some (.int 8)]) rfl rfl rfl rfl ?_
  refine am_g 3 5 [some (.int 3), some (.int 8)] [.retAddr 0, .int 8, .int 3] h rfl ?_
  refine am_call (y := 223) (vs := [.int 3, .int 8, .retAddr 0]) (rest := []) (v := (some (.int 3))) (h1 := h) rfl rfl rfl (sp_J3_checkIndex_8e157_3_8 d _) ?_
  refine am_g 1 9 [some (.int 3), some (.int 8)] [] h rfl ?_
  exact am_ret2 rfl rfl rfl rfl rfl
theorem sp_J1_charAt_3b067_4_3 (d : Nat) (h : am_H) : am_X xs LL (d + 3) 219 [.ref 10, .int 3] h (some (.int 58)) h := by
  refine am_XR (d := d + 2) (C := cd_J1_charAt_3b067) (L := [some (.ref 10), some (.int 3)]) rfl rfl rfl rfl ?_
  refine am_g 3 3 [some (.ref 10), some (.int 3)] [.int 8, .int 3] h rfl ?_
  refine am_call (y := 218) (vs := [.int 3, .int 8]) (rest := []) (v := none) (h1 := h) rfl rfl rfl (sp_J0_checkIndex_df160_3_8 d _) ?_
  refine am_g 6 14 [some (.ref 10), some (.int 3)] [.int 58] h rfl ?_
  exact am_ret2 rfl rfl rfl rfl rfl
theorem sp_J0_charAt_5068e_4_3 (d : Nat) (h : am_H) : am_X xs LL (d + 4) 213 [.ref 4, .int 3] h (some (.int 58)) h := by
  refine am_XR (d := d + 3) (C := cd_J0_charAt_5068e) (L := [some (.ref 4), some (.int 3)]) rfl rfl rfl rfl ?_
  refine am_g 1 1 [some (.ref 4), some (.int 3)] [.ref 4] h rfl ?_
  refine am_call (y := 216) (vs := [.ref 4]) (rest := []) (v := (some (.int 1))) (h1 := h) rfl rfl rfl (sp_J0_isLatin1_aae02_4 (d + 2) _) ?_
  refine am_g 4 12 [some (.ref 4), some (.int 3)] [.int 3, .ref 10] h rfl ?_
  refine am_call (y := 219) (vs := [.ref 10, .int 3]) (rest := []) (v := (some (.int 58))) (h1 := h) rfl rfl rfl (sp_J1_charAt_3b067_4_3 d _) ?_
  exact am_ret2 rfl rfl rfl rfl rfl
theorem sp_J3_checkIndex_8e157_4_8 (d : Nat) (h : am_H) : am_X xs LL (d + 1) 223 [.int 4, .int 8, .retAddr 0] h (some (.int 4)) h := by
  refine am_XR (d := d + 0) (C := cd_J3_checkIndex_8e157) (L := [some (.int 4), some (.int 8), some (.retAddr 0)]) rfl rfl rfl rfl ?_
  refine am_g 6 17 [some (.int 4), some (.int 8), some (.retAddr 0)] [.int 4] h rfl ?_
  exact am_ret2 rfl rfl rfl rfl rfl
theorem sp_J0_checkIndex_df160_4_8 (d : Nat) (h : am_H) : am_X xs LL (d + 2) 218 [.int 4, .int 8] h none h := by
  refine am_XR (d := d + 1) (C := cd_J0_checkIndex_df160) (L := [some (.int 4), some (.int 8)]) rfl rfl rfl rfl ?_
  refine am_g 3 5 [some (.int 4), some (.int 8)] [.retAddr 0, .int 8, .int 4] h rfl ?_
  refine am_call (y := 223) (vs := [.int 4, .int 8, .retAddr 0]) (rest := []) (v := (some (.int 4))) (h1 := h) rfl rfl rfl (sp_J3_checkIndex_8e157_4_8 d _) ?_
  refine am_g 1 9 [some (.int 4), some (.int 8)] [] h rfl ?_
  exact am_ret2 rfl rfl rfl rfl rfl
theorem sp_J1_charAt_3b067_4_4 (d : Nat) (h : am_H) : am_X xs LL (d + 3) 219 [.ref 10, .int 4] h (some (.int 50)) h := by
  refine am_XR (d := d + 2) (C := cd_J1_charAt_3b067) (L := [some (.ref 10), some (.int 4)]) rfl rfl rfl rfl ?_
  refine am_g 3 3 [some (.ref 10), some (.int 4)] [.int 8, .int 4] h rfl ?_
  refine am_call (y := 218) (vs := [.int 4, .int 8]) (rest := []) (v := none) (h1 := h) rfl rfl rfl (sp_J0_checkIndex_df160_4_8 d _) ?_
  refine am_g 6 14 [some (.ref 10), some (.int 4)] [.int 50] h rfl ?_
  exact am_ret2 rfl rfl rfl rfl rfl
theorem sp_J0_charAt_5068e_4_4 (d : Nat) (h : am_H) : am_X xs LL (d + 4) 213 [.ref 4, .int 4] h (some (.int 50)) h := by
  refine am_XR (d := d + 3) (C := cd_J0_charAt_5068e) (L := [some (.ref 4), some (.int 4)]) rfl rfl rfl rfl ?_
  refine am_g 1 1 [some (.ref 4), some (.int 4)] [.ref 4] h rfl ?_
  refine am_call (y := 216) (vs := [.ref 4]) (rest := []) (v := (some (.int 1))) (h1 := h) rfl rfl rfl (sp_J0_isLatin1_aae02_4 (d + 2) _) ?_
  refine am_g 4 12 [some (.ref 4), some (.int 4)] [.int 4, .ref 10] h rfl ?_
  refine am_call (y := 219) (vs := [.ref 10, .int 4]) (rest := []) (v := (some (.int 50))) (h1 := h) rfl rfl rfl (sp_J1_charAt_3b067_4_4 d _) ?_
  exact am_ret2 rfl rfl rfl rfl rfl
theorem sp_J3_checkIndex_8e157_5_8 (d : Nat) (h : am_H) : am_X xs LL (d + 1) 223 [.int 5, .int 8, .retAddr 0] h (some (.int 5)) h := by
  refine am_XR (d := d + 0) (C := cd_J3_checkIndex_8e157) (L := [some (.int 5), some (.int 8), some (.retAddr 0)]) rfl rfl rfl rfl ?_
  refine am_g 6 17 [some (.int 5), some (.int 8), some (.retAddr 0)] [.int 5] h rfl ?_
  exact am_ret2 rfl rfl rfl rfl rfl
theorem sp_J0_checkIndex_df160_5_8 (d : Nat) (h : am_H) : am_X xs LL (d + 2) 218 [.int 5, .int 8] h none h := by
  refine am_XR (d := d + 1) (C := cd_J0_checkIndex_df160) (L := [some (.int 5), some (.int 8)]) rfl rfl rfl rfl ?_
  refine am_g 3 5 [some (.int 5), some (.int 8)] [.retAddr 0, .int 8, .int 5] h rfl ?_
  refine am_call (y := 223) (vs := [.int 5, .int 8, .retAddr 0]) (rest := []) (v := (some (.int 5))) (h1 := h) rfl rfl rfl (sp_J3_checkIndex_8e157_5_8 d _) ?_
  refine am_g 1 9 [some (.int 5), some (.int 8)] [] h rfl ?_
  exact am_ret2 rfl rfl rfl rfl rfl
theorem sp_J1_charAt_3b067_4_5 (d : Nat) (h : am_H) : am_X xs LL (d + 3) 219 [.ref 10, .int 5] h (some (.int 40)) h := by
  refine am_XR (d := d + 2) (C := cd_J1_charAt_3b067) (L := [some (.ref 10), some (.int 5)]) rfl rfl rfl rfl ?_
  refine am_g 3 3 [some (.ref 10), some (.int 5)] [.int 8, .int 5] h rfl ?_
  refine am_call (y := 218) (vs := [.int 5, .int 8]) (rest := []) (v := none) (h1 := h) rfl rfl rfl (sp_J0_checkIndex_df160_5_8 d _) ?_
  refine am_g 6 14 [some (.ref 10), some (.int 5)] [.int 40] h rfl ?_
  exact am_ret2 rfl rfl rfl rfl rfl
theorem sp_J0_charAt_5068e_4_5 (d : Nat) (h : am_H) : am_X xs LL (d + 4) 213 [.ref 4, .int 5] h (some (.int 40)) h := by
  refine am_XR (d := d + 3) (C := cd_J0_charAt_5068e) (L := [some (.ref 4), some (.int 5)]) rfl rfl rfl rfl ?_
  refine am_g 1 1 [some (.ref 4), some (.int 5)] [.ref 4] h rfl ?_
  refine am_call (y := 216) (vs := [.ref 4]) (rest := []) (v := (some (.int 1))) (h1 := h) rfl rfl rfl (sp_J0_isLatin1_aae02_4 (d + 2) _) ?_
  refine am_g 4 12 [some (.ref 4), some (.int 5)] [.int 5, .ref 10] h rfl ?_
  refine am_call (y := 219) (vs := [.ref 10, .int 5]) (rest := []) (v := (some (.int 40))) (h1 := h) rfl rfl rfl (sp_J1_charAt_3b067_4_5 d _) ?_
  exact am_ret2 rfl rfl rfl rfl rfl
theorem sp_J3_checkIndex_8e157_6_8 (d : Nat) (h : am_H) : am_X xs LL (d + 1) 223 [.int 6, .int 8, .retAddr 0] h (some (.int 6)) h := by
  refine am_XR (d := d + 0) (C := cd_J3_checkIndex_8e157) (L := [some (.int 6), some (.int 8), some (.retAddr 0)]) rfl rfl rfl rfl ?_
  refine am_g 6 17 [some (.int 6), some (.int 8), some (.retAddr 0)] [.int 6] h rfl ?_
  exact am_ret2 rfl rfl rfl rfl rfl
theorem sp_J0_checkIndex_df160_6_8 (d : Nat) (h : am_H) : am_X xs LL (d + 2) 218 [.int 6, .int 8] h none h := by
  refine am_XR (d := d + 1) (C := cd_J0_checkIndex_df160) (L := [some (.int 6), some (.int 8)]) rfl rfl rfl rfl ?_
  refine am_g 3 5 [some (.int 6), some (.int 8)] [.retAddr 0, .int 8, .int 6] h rfl ?_
  refine am_call (y := 223) (vs := [.int 6, .int 8, .retAddr 0]) (rest := []) (v := (some (.int 6))) (h1 := h) rfl rfl rfl (sp_J3_checkIndex_8e157_6_8 d _) ?_
  refine am_g 1 9 [some (.int 6), some (.int 8)] [] h rfl ?_
  exact am_ret2 rfl rfl rfl rfl rfl
theorem sp_J1_charAt_3b067_4_6 (d : Nat) (h : am_H) : am_X xs LL (d + 3) 219 [.ref 10, .int 6] h (some (.int 122)) h := by
  refine am_XR (d := d + 2) (C := cd_J1_charAt_3b067) (L := [some (.ref 10), some (.int 6)]) rfl rfl rfl rfl ?_
  refine am_g 3 3 [some (.ref 10), some (.int 6)] [.int 8, .int 6] h rfl ?_
  refine am_call (y := 218) (vs := [.int 6, .int 8]) (rest := []) (v := none) (h1 := h) rfl rfl rfl (sp_J0_checkIndex_df160_6_8 d _) ?_
  refine am_g 6 14 [some (.ref 10), some (.int 6)] [.int 122] h rfl ?_
  exact am_ret2 rfl rfl rfl rfl rfl
theorem sp_J0_charAt_5068e_4_6 (d : Nat) (h : am_H) : am_X xs LL (d + 4) 213 [.ref 4, .int 6] h (some (.int 122)) h := by
  refine am_XR (d := d + 3) (C := cd_J0_charAt_5068e) (L := [some (.ref 4), some (.int 6)]) rfl rfl rfl rfl ?_
  refine am_g 1 1 [some (.ref 4), some (.int 6)] [.ref 4] h rfl ?_
  refine am_call (y := 216) (vs := [.ref 4]) (rest := []) (v := (some (.int 1))) (h1 := h) rfl rfl rfl (sp_J0_isLatin1_aae02_4 (d + 2) _) ?_
  refine am_g 4 12 [some (.ref 4), some (.int 6)] [.int 6, .ref 10] h rfl ?_
  refine am_call (y := 219) (vs := [.ref 10, .int 6]) (rest := []) (v := (some (.int 122))) (h1 := h) rfl rfl rfl (sp_J1_charAt_3b067_4_6 d _) ?_
  exact am_ret2 rfl rfl rfl rfl rfl
theorem sp_J3_checkIndex_8e157_7_8 (d : Nat) (h : am_H) : am_X xs LL (d + 1) 223 [.int 7, .int 8, .retAddr 0] h (some (.int 7)) h := by
  refine am_XR (d := d + 0) (C := cd_J3_checkIndex_8e157) (L := [some (.int 7), some (.int 8), some (.retAddr 0)]) rfl rfl rfl rfl ?_
  refine am_g 6 17 [some (.int 7), some (.int 8), some (.retAddr 0)] [.int 7] h rfl ?_
  exact am_ret2 rfl rfl rfl rfl rfl
theorem sp_J0_checkIndex_df160_7_8 (d : Nat) (h : am_H) : am_X xs LL (d + 2) 218 [.int 7, .int 8] h none h := by
  refine am_XR (d := d + 1) (C := cd_J0_checkIndex_df160) (L := [some (.int 7), some (.int 8)]) rfl rfl rfl rfl ?_
  refine am_g 3 5 [some (.int 7), some (.int 8)] [.retAddr 0, .int 8, .int 7] h rfl ?_
  refine am_call (y := 223) (vs := [.int 7, .int 8, .retAddr 0]) (rest := []) (v := (some (.int 7))) (h1 := h) rfl rfl rfl (sp_J3_checkIndex_8e157_7_8 d _) ?_
  refine am_g 1 9 [some (.int 7), some (.int 8)] [] h rfl ?_
  exact am_ret2 rfl rfl rfl rfl rfl
theorem sp_J1_charAt_3b067_4_7 (d : Nat) (h : am_H) : am_X xs LL (d + 3) 219 [.ref 10, .int 7] h (some (.int 41)) h := by
  refine am_XR (d := d + 2) (C := cd_J1_charAt_3b067) (L := [some (.ref 10), some (.int 7)]) rfl rfl rfl rfl ?_
  refine am_g 3 3 [some (.ref 10), some (.int 7)] [.int 8, .int 7] h rfl ?_
  refine am_call (y := 218) (vs := [.int 7, .int 8]) (rest := []) (v := none) (h1 := h) rfl rfl rfl (sp_J0_checkIndex_df160_7_8 d _) ?_
  refine am_g 6 14 [some (.ref 10), some (.int 7)] [.int 41] h rfl ?_
  exact am_ret2 rfl rfl rfl rfl rfl
theorem sp_J0_charAt_5068e_4_7 (d : Nat) (h : am_H) : am_X xs LL (d + 4) 213 [.ref 4, .int 7] h (some (.int 41)) h := by
  refine am_XR (d := d + 3) (C := cd_J0_charAt_5068e) (L := [some (.ref 4), some (.int 7)]) rfl rfl rfl rfl ?_
  refine am_g 1 1 [some (.ref 4), some (.int 7)] [.ref 4] h rfl ?_
  refine am_call (y := 216) (vs := [.ref 4]) (rest := []) (v := (some (.int 1))) (h1 := h) rfl rfl rfl (sp_J0_isLatin1_aae02_4 (d + 2) _) ?_
  refine am_g 4 12 [some (.ref 4), some (.int 7)] [.int 7, .ref 10] h rfl ?_
  refine am_call (y := 219) (vs := [.ref 10, .int 7]) (rest := []) (v := (some (.int 41))) (h1 := h) rfl rfl rfl (sp_J1_charAt_3b067_4_7 d _) ?_
  exact am_ret2 rfl rfl rfl rfl rfl
theorem sp_J3_checkIndex_8e157_0_4 (d : Nat) (h : am_H) : am_X xs LL (d + 1) 223 [.int 0, .int 4, .retAddr 0] h (some (.int 0)) h := by
  refine am_XR (d := d + 0) (C := cd_J3_checkIndex_8e157) (L := [some (.int 0), some (.int 4), some (.retAddr 0)]) rfl rfl rfl rfl ?_
  refine am_g 6 17 [some (.int 0), some (.int 4), some (.retAddr 0)] [.int 0] h rfl ?_
  exact am_ret2 rfl rfl rfl rfl rfl
theorem sp_J0_checkIndex_df160_0_4 (d : Nat) (h : am_H) : am_X xs LL (d + 2) 218 [.int 0, .int 4] h none h := by
  refine am_XR (d := d + 1) (C := cd_J0_checkIndex_df160) (L := [some (.int 0), some (.int 4)]) rfl rfl rfl rfl ?_
  refine am_g 3 5 [some (.int 0), some (.int 4)] [.retAddr 0, .int 4, .int 0] h rfl ?_
  refine am_call (y := 223) (vs := [.int 0, .int 4, .retAddr 0]) (rest := []) (v := (some (.int 0))) (h1 := h) rfl rfl rfl (sp_J3_checkIndex_8e157_0_4 d _) ?_
  refine am_g 1 9 [some (.int 0), some (.int 4)] [] h rfl ?_
  exact am_ret2 rfl rfl rfl rfl rfl
theorem sp_J1_charAt_3b067_5_0 (d : Nat) (h : am_H) : am_X xs LL (d + 3) 219 [.ref 11, .int 0] h (some (.int 120)) h := by
  refine am_XR (d := d + 2) (C := cd_J1_charAt_3b067) (L := [some (.ref 11), some (.int 0)]) rfl rfl rfl rfl ?_
  refine am_g 3 3 [some (.ref 11), some (.int 0)] [.int 4, .int 0] h rfl ?_
  refine am_call (y := 218) (vs := [.int 0, .int 4]) (rest := []) (v := none) (h1 := h) rfl rfl rfl (sp_J0_checkIndex_df160_0_4 d _) ?_
  refine am_g 6 14 [some (.ref 11), some (.int 0)] [.int 120] h rfl ?_
  exact am_ret2 rfl rfl rfl rfl rfl
theorem sp_J0_charAt_5068e_5_0 (d : Nat) (h : am_H) : am_X xs LL (d + 4) 213 [.ref 5, .int 0] h (some (.int 120)) h := by
  refine am_XR (d := d + 3) (C := cd_J0_charAt_5068e) (L := [some (.ref 5), some (.int 0)]) rfl rfl rfl rfl ?_
  refine am_g 1 1 [some (.ref 5), some (.int 0)] [.ref 5] h rfl ?_
  refine am_call (y := 216) (vs := [.ref 5]) (rest := []) (v := (some (.int 1))) (h1 := h) rfl rfl rfl (sp_J0_isLatin1_aae02_5 (d + 2) _) ?_
  refine am_g 4 12 [some (.ref 5), some (.int 0)] [.int 0, .ref 11] h rfl ?_
  refine am_call (y := 219) (vs := [.ref 11, .int 0]) (rest := []) (v := (some (.int 120))) (h1 := h) rfl rfl rfl (sp_J1_charAt_3b067_5_0 d _) ?_
  exact am_ret2 rfl rfl rfl rfl rfl
theorem sp_J3_checkIndex_8e157_1_4 (d : Nat) (h : am_H) : am_X xs LL (d + 1) 223 [.int 1, .int 4, .retAddr 0] h (some (.int 1)) h := by
  refine am_XR (d := d + 0) (C := cd_J3_checkIndex_8e157) (L := [some (.int 1), some (.int 4), some (.retAddr 0)]) rfl rfl rfl rfl ?_
  refine am_g 6 17 [some (.int 1), some (.int 4), some (.retAddr 0)] [.int 1] h rfl ?_
  exact am_ret2 rfl rfl rfl rfl rfl
theorem sp_J0_checkIndex_df160_1_4 (d : Nat) (h : am_H) : am_X xs LL (d + 2) 218 [.int 1, .int 4] h none h := by
  refine am_XR (d := d + 1) (C := cd_J0_checkIndex_df160) (L := [some (.int 1), some (.int 4)]) rfl rfl rfl rfl ?_
  refine am_g 3 5 [some (.int 1), some (.int 4)] [.retAddr 0, .int 4, .int 1] h rfl ?_
  refine am_call (y := 223) (vs := [.int 1, .int 4, .retAddr 0]) (rest := []) (v := (some (.int 1))) (h1 := h) rfl rfl rfl (sp_J3_checkIndex_8e157_1_4 d _) ?_
  refine am_g 1 9 [some (.int 1), some (.int 4)] [] h rfl ?_
  exact am_ret2 rfl rfl rfl rfl rfl
theorem sp_J1_charAt_3b067_5_1 (d : Nat) (h : am_H) : am_X xs LL (d + 3) 219 [.ref 11, .int 1] h (some (.int 61)) h := by
  refine am_XR (d := d + 2) (C := cd_J1_charAt_3b067) (L := [some (.ref 11), some (.int 1)]) rfl rfl rfl rfl ?_
  refine am_g 3 3 [some (.ref 11), some (.int 1)] [.int 4, .int 1] h rfl ?_
  refine am_call (y := 218) (vs := [.int 1, .int 4]) (rest := []) (v := none) (h1 := h) rfl rfl rfl (sp_J0_checkIndex_df160_1_4 d _) ?_
  refine am_g 6 14 [some (.ref 11), some (.int 1)] [.int 61] h rfl ?_
  exact am_ret2 rfl rfl rfl rfl rfl
theorem sp_J0_charAt_5068e_5_1 (d : Nat) (h : am_H) : am_X xs LL (d + 4) 213 [.ref 5, .int 1] h (some (.int 61)) h := by
  refine am_XR (d := d + 3) (C := cd_J0_charAt_5068e) (L := [some (.ref 5), some (.int 1)]) rfl rfl rfl rfl ?_
  refine am_g 1 1 [some (.ref 5), some (.int 1)] [.ref 5] h rfl ?_
  refine am_call (y := 216) (vs := [.ref 5]) (rest := []) (v := (some (.int 1))) (h1 := h) rfl rfl rfl (sp_J0_isLatin1_aae02_5 (d + 2) _) ?_
  refine am_g 4 12 [some (.ref 5), some (.int 1)] [.int 1, .ref 11] h rfl ?_
  refine am_call (y := 219) (vs := [.ref 11, .int 1]) (rest := []) (v := (some (.int 61))) (h1 := h) rfl rfl rfl (sp_J1_charAt_3b067_5_1 d _) ?_
  exact am_ret2 rfl rfl rfl rfl rfl
theorem sp_J3_checkIndex_8e157_2_4 (d : Nat) (h : am_H) : am_X xs LL (d + 1) 223 [.int 2, .int 4, .retAddr 0] h (some (.int 2)) h := by
  refine am_XR (d := d + 0) (C := cd_J3_checkIndex_8e157) (L := [some (.int 2), some (.int 4), some (.retAddr 0)]) rfl rfl rfl rfl ?_
  refine am_g 6 17 [some (.int 2), some (.int 4), some (.retAddr 0)] [.int 2] h rfl ?_
  exact am_ret2 rfl rfl rfl rfl rfl
theorem sp_J0_checkIndex_df160_2_4 (d : Nat) (h : am_H) : am_X xs LL (d + 2) 218 [.int 2, .int 4] h none h := by
  refine am_XR (d := d + 1) (C := cd_J0_checkIndex_df160) (L := [some (.int 2), some (.int 4)]) rfl rfl rfl rfl ?_
  refine am_g 3 5 [some (.int 2), some (.int 4)] [.retAddr 0, .int 4, .int 2] h rfl ?_
  refine am_call (y := 223) (vs := [.int 2, .int 4, .retAddr 0]) (rest := []) (v := (some (.int 2))) (h1 := h) rfl rfl rfl (sp_J3_checkIndex_8e157_2_4 d _) ?_
  refine am_g 1 9 [some (.int 2), some (.int 4)] [] h rfl ?_
  exact am_ret2 rfl rfl rfl rfl rfl
theorem sp_J1_charAt_3b067_5_2 (d : Nat) (h : am_H) : am_X xs LL (d + 3) 219 [.ref 11, .int 2] h (some (.int 33)) h := by
  refine am_XR (d := d + 2) (C := cd_J1_charAt_3b067) (L := [some (.ref 11), some (.int 2)]) rfl rfl rfl rfl ?_
  refine am_g 3 3 [some (.ref 11), some (.int 2)] [.int 4, .int 2] h rfl ?_
  refine am_call (y := 218) (vs := [.int 2, .int 4]) (rest := []) (v := none) (h1 := h) rfl rfl rfl (sp_J0_checkIndex_df160_2_4 d _) ?_
  refine am_g 6 14 [some (.ref 11), some (.int 2)] [.int 33] h rfl ?_
  exact am_ret2 rfl rfl rfl rfl rfl
theorem sp_J0_charAt_5068e_5_2 (d : Nat) (h : am_H) : am_X xs LL (d + 4) 213 [.ref 5, .int 2] h (some (.int 33)) h := by
  refine am_XR (d := d + 3) (C := cd_J0_charAt_5068e) (L := [some (.ref 5), some (.int 2)]) rfl rfl rfl rfl ?_
  refine am_g 1 1 [some (.ref 5), some (.int 2)] [.ref 5] h rfl ?_
  refine am_call (y := 216) (vs := [.ref 5]) (rest := []) (v := (some (.int 1))) (h1 := h) rfl rfl rfl (sp_J0_isLatin1_aae02_5 (d + 2) _) ?_
  refine am_g 4 12 [some (.ref 5), some (.int 2)] [.int 2, .ref 11] h rfl ?_
  refine am_call (y := 219) (vs := [.ref 11, .int 2]) (rest := []) (v := (some (.int 33))) (h1 := h) rfl rfl rfl (sp_J1_charAt_3b067_5_2 d _) ?_
  exact am_ret2 rfl rfl rfl rfl rfl
theorem sp_J3_checkIndex_8e157_3_4 (d : Nat) (h : am_H) : am_X xs LL (d + 1) 223 [.int 3, .int 4, .retAddr 0] h (some (.int 3)) h := by
  refine am_XR (d := d + 0) (C := cd_J3_checkIndex_8e157) (L := [some (.int 3), some (.int 4), some (.retAddr 0)]) rfl rfl rfl rfl ?_
  refine am_g 6 17 [some (.int 3), some (.int 4), some (.retAddr 0)] [.int 3] h rfl ?_
  exact am_ret2 rfl rfl rfl rfl rfl
theorem sp_J0_checkIndex_df160_3_4 (d : Nat) (h : am_H) : am_X xs LL (d + 2) 218 [.int 3, .int 4] h none h := by
  refine am_XR (d := d + 1) (C := cd_J0_checkIndex_df160) (L := [some (.int 3), some (.int 4)]) rfl rfl rfl rfl ?_
  refine am_g 3 5 [some (.int 3), some (.int 4)] [.retAddr 0, .int 4, .int 3] h rfl ?_
  refine am_call (y := 223) (vs := [.int 3, .int 4, .retAddr 0]) (rest := []) (v := (some (.int 3))) (h1 := h) rfl rfl rfl (sp_J3_checkIndex_8e157_3_4 d _) ?_
  refine am_g 1 9 [some (.int 3), some (.int 4)] [] h rfl ?_
  exact am_ret2 rfl rfl rfl rfl rfl
theorem sp_J1_charAt_3b067_5_3 (d : Nat) (h : am_H) : am_X xs LL (d + 3) 219 [.ref 11, .int 3] h (some (.int 55)) h := by
  refine am_XR (d := d + 2) (C := cd_J1_charAt_3b067) (L := [some (.ref 11), some (.int 3)]) rfl rfl rfl rfl ?_
  refine am_g 3 3 [some (.ref 11), some (.int 3)] [.int 4, .int 3] h rfl ?_
  refine am_call (y := 218) (vs := [.int 3, .int 4]) (rest := []) (v := none) (h1 := h) rfl rfl rfl (sp_J0_checkIndex_df160_3_4 d _) ?_
  refine am_g 6 14 [some (.ref 11), some (.int 3)] [.int 55] h rfl ?_
  exact am_ret2 rfl rfl rfl rfl rfl
theorem sp_J0_charAt_5068e_5_3 (d : Nat) (h : am_H) : am_X xs LL (d + 4) 213 [.ref 5, .int 3] h (some (.int 55)) h := by
  refine am_XR (d := d + 3) (C := cd_J0_charAt_5068e) (L := [some (.ref 5), some (.int 3)]) rfl rfl rfl rfl ?_
  refine am_g 1 1 [some (.ref 5), some (.int 3)] [.ref 5] h rfl ?_
  refine am_call (y := 216) (vs := [.ref 5]) (rest := []) (v := (some (.int 1))) (h1 := h) rfl rfl rfl (sp_J0_isLatin1_aae02_5 (d + 2) _) ?_
  refine am_g 4 12 [some (.ref 5), some (.int 3)] [.int 3, .ref 11] h rfl ?_
  refine am_call (y := 219) (vs := [.ref 11, .int 3]) (rest := []) (v := (some (.int 55))) (h1 := h) rfl rfl rfl (sp_J1_charAt_3b067_5_3 d _) ?_
  exact am_ret2 rfl rfl rfl rfl rfl
theorem sp_J3_checkIndex_8e157_0_3 (d : Nat) (h : am_H) : am_X xs LL (d + 1) 223 [.int 0, .int 3, .retAddr 0] h (some (.int 0)) h := by
  refine am_XR (d := d + 0) (C := cd_J3_checkIndex_8e157) (L := [some (.int 0), some (.int 3), some (.retAddr 0)]) rfl rfl rfl rfl ?_
  refine am_g 6 17 [some (.int 0), some (.int 3), some (.retAddr 0)] [.int 0] h rfl ?_
  exact am_ret2 rfl rfl rfl rfl rfl
theorem sp_J0_checkIndex_df160_0_3 (d : Nat) (h : am_H) : am_X xs LL (d + 2) 218 [.int 0, .int 3] h none h := by
  refine am_XR (d := d + 1) (C := cd_J0_checkIndex_df160) (L := [some (.int 0), some (.int 3)]) rfl rfl rfl rfl ?_
  refine am_g 3 5 [some (.int 0), some (.int 3)] [.retAddr 0, .int 3, .int 0] h rfl ?_
  refine am_call (y := 223) (vs := [.int 0, .int 3, .retAddr 0]) (rest := []) (v := (some (.int 0))) (h1 := h) rfl rfl rfl (sp_J3_checkIndex_8e157_0_3 d _) ?_
  refine am_g 1 9 [some (.int 0), some (.int 3)] [] h rfl ?_
  exact am_ret2 rfl rfl rfl rfl rfl
theorem sp_J1_charAt_3b067_6_0 (d : Nat) (h : am_H) : am_X xs LL (d + 3) 219 [.ref 12, .int 0] h (some (.int 120)) h := by
  refine am_XR (d := d + 2) (C := cd_J1_charAt_3b067) (L := [some (.ref 12), some (.int 0)]) rfl rfl rfl rfl ?_
  refine am_g 3 3 [some (.ref 12), some (.int 0)] [.int 3, .int 0] h rfl ?_
  refine am_call (y := 218) (vs := [.int 0, .int 3]) (rest := []) (v := none) (h1 := h) rfl rfl rfl (sp_J0_checkIndex_df160_0_3 d _) ?_
  refine am_g 6 14 [some (.ref 12), some (.int 0)] [.int 120] h rfl ?_
  exact am_ret2 rfl rfl rfl rfl rfl
theorem sp_J0_charAt_5068e_6_0 (d : Nat) (h : am_H) : am_X xs LL (d + 4) 213 [.ref 6, .int 0] h (some (.int 120)) h := by
  refine am_XR (d := d + 3) (C := cd_J0_charAt_5068e) (L := [some (.ref 6), some (.int 0)]) rfl rfl rfl rfl ?_
  refine am_g 1 1 [some (.ref 6), some (.int 0)] [.ref 6] h rfl ?_
  refine am_call (y := 216) (vs := [.ref 6]) (rest := []) (v := (some (.int 1))) (h1 := h) rfl rfl rfl (sp_J0_isLatin1_aae02_6 (d + 2) _) ?_
  refine am_g 4 12 [some (.ref 6), some (.int 0)] [.int 0, .ref 12] h rfl ?_
  refine am_call (y := 219) (vs := [.ref 12, .int 0]) (rest := []) (v := (some (.int 120))) (h1 := h) rfl rfl rfl (sp_J1_charAt_3b067_6_0 d _) ?_
  exact am_ret2 rfl rfl rfl rfl rfl
theorem sp_J3_checkIndex_8e157_1_3 (d : Nat) (h : am_H) : am_X xs LL (d + 1) 223 [.int 1, .int 3, .retAddr 0] h (some (.int 1)) h := by
  refine am_XR (d := d + 0) (C := cd_J3_checkIndex_8e157) (L := [some (.int 1), some (.int 3), some (.retAddr 0)]) rfl rfl rfl rfl ?_
  refine am_g 6 17 [some (.int 1), some (.int 3), some (.retAddr 0)] [.int 1] h rfl ?_
  exact am_ret2 rfl rfl rfl rfl rfl
theorem sp_J0_checkIndex_df160_1_3 (d : Nat) (h : am_H) : am_X xs LL (d + 2) 218 [.int 1, .int 3] h none h := by
  refine am_XR (d := d + 1) (C := cd_J0_checkIndex_df160) (L := [some (.int 1), some (.int 3)]) rfl rfl rfl rfl ?_
  refine am_g 3 5 [some (.int 1), some (.int 3)] [.retAddr 0, .int 3, .int 1] h rfl ?_
  refine am_call (y := 223) (vs := [.int 1, .int 3, .retAddr 0]) (rest := []) (v := (some (.int 1))) (h1 := h) rfl rfl rfl (sp_J3_checkIndex_8e157_1_3 d _) ?_
  refine am_g 1 9 [some (.int 1), some (.int 3)] [] h rfl ?_
  exact am_ret2 rfl rfl rfl rfl rfl
theorem sp_J1_charAt_3b067_6_1 (d : Nat) (h : am_H) : am_X xs LL (d + 3) 219 [.ref 12, .int 1] h (some (.int 61)) h := by
  refine am_XR (d := d + 2) (C := cd_J1_charAt_3b067) (L := [some (.ref 12), some (.int 1)]) rfl rfl rfl rfl ?_
  refine am_g 3 3 [some (.ref 12), some (.int 1)] [.int 3, .int 1] h rfl ?_
  refine am_call (y := 218) (vs := [.int 1, .int 3]) (rest := []) (v := none) (h1 := h) rfl rfl rfl (sp_J0_checkIndex_df160_1_3 d _) ?_
  refine am_g 6 14 [some (.ref 12), some (.int 1)] [.int 61] h rfl ?_
  exact am_ret2 rfl rfl rfl rfl rfl
theorem sp_J0_charAt_5068e_6_1 (d : Nat) (h : am_H) : am_X xs LL (d + 4) 213 [.ref 6, .int 1] h (some (.int 61)) h := by
  refine am_XR (d := d + 3) (C := cd_J0_charAt_5068e) (L := [some (.ref 6), some (.int 1)]) rfl rfl rfl rfl ?_
  refine am_g 1 1 [some (.ref 6), some (.int 1)] [.ref 6] h rfl ?_
  refine am_call (y := 216) (vs := [.ref 6]) (rest := []) (v := (some (.int 1))) (h1 := h) rfl rfl rfl (sp_J0_isLatin1_aae02_6 (d + 2) _) ?_
  refine am_g 4 12 [some (.ref 6), some (.int 1)] [.int 1, .ref 12] h rfl ?_
  refine am_call (y := 219) (vs := [.ref 12, .int 1]) (rest := []) (v := (some (.int 61))) (h1 := h) rfl rfl rfl (sp_J1_charAt_3b067_6_1 d _) ?_
  exact am_ret2 rfl rfl rfl rfl rfl
theorem sp_J3_checkIndex_8e157_2_3 (d : Nat) (h : am_H) : am_X xs LL (d + 1) 223 [.int 2, .int 3, .retAddr 0] h (some (.int 2)) h := by
  refine am_XR (d := d + 0) (C := cd_J3_checkIndex_8e157) (L := [some (.int 2), some (.int 3), some (.retAddr 0)]) rfl rfl rfl rfl ?_
  refine am_g 6 17 [some (.int 2), some (.int 3), some (.retAddr 0)] [.int 2] h rfl ?_
  exact am_ret2 rfl rfl rfl rfl rfl
theorem sp_J0_checkIndex_df160_2_3 (d : Nat) (h : am_H) : am_X xs LL (d + 2) 218 [.int 2, .int 3] h none h := by
  refine am_XR (d := d + 1) (C := cd_J0_checkIndex_df160) (L := [some (.int 2), some (.int 3)]) rfl rfl rfl rfl ?_
  refine am_g 3 5 [some (.int 2), some (.int 3)] [.retAddr 0, .int 3, .int 2] h rfl ?_
  refine am_call (y := 223) (vs := [.int 2, .int 3, .retAddr 0]) (rest := []) (v := (some (.int 2))) (h1 := h) rfl rfl rfl (sp_J3_checkIndex_8e157_2_3 d _) ?_
  refine am_g 1 9 [some (.int 2), some (.int 3)] [] h rfl ?_
  exact am_ret2 rfl rfl rfl rfl rfl
theorem sp_J1_charAt_3b067_6_2 (d : Nat) (h : am_H) : am_X xs LL (d + 3) 219 [.ref 12, .int 2] h (some (.int 121)) h := by
  refine am_XR (d := d + 2) (C := cd_J1_charAt_3b067) (L := [some (.ref 12), some (.int 2)]) rfl rfl rfl rfl ?_
  refine am_g 3 3 [some (.ref 12), some (.int 2)] [.int 3, .int 2] h rfl ?_
  refine am_call (y := 218) (vs := [.int 2, .int 3]) (rest := []) (v := none) (h1 := h) rfl rfl rfl (sp_J0_checkIndex_df160_2_3 d _) ?_
  refine am_g 6 14 [some (.ref 12), some (.int 2)] [.int 121] h rfl ?_
  exact am_ret2 rfl rfl rfl rfl rfl
theorem sp_J0_charAt_5068e_6_2 (d : Nat) (h : am_H) : am_X xs LL (d + 4) 213 [.ref 6, .int 2] h (some (.int 121)) h := by
  refine am_XR (d := d + 3) (C := cd_J0_charAt_5068e) (L := [some (.ref 6), some (.int 2)]) rfl rfl rfl rfl ?_
  refine am_g 1 1 [some (.ref 6), some (.int 2)] [.ref 6] h rfl ?_
  refine am_call (y := 216) (vs := [.ref 6]) (rest := []) (v := (some (.int 1))) (h1 := h) rfl rfl rfl (sp_J0_isLatin1_aae02_6 (d + 2) _) ?_
  refine am_g 4 12 [some (.ref 6), some (.int 2)] [.int 2, .ref 12] h rfl ?_
  refine am_call (y := 219) (vs := [.ref 12, .int 2]) (rest := []) (v := (some (.int 121))) (h1 := h) rfl rfl rfl (sp_J1_charAt_3b067_6_2 d _) ?_
  exact am_ret2 rfl rfl rfl rfl rfl
theorem sp_J1_canEncode_9a6ad_120 (d : Nat) (h : am_H) : am_X xs LL (d + 1) 221 [.int 120] h (some (.int 1)) h := by
  refine am_XR (d := d + 0) (C := cd_J1_canEncode_9a6ad) (L := [some (.int 120)]) rfl rfl rfl rfl ?_
  refine am_g 6 12 [some (.int 120)] [.int 1] h rfl ?_
  refine am_g 1 16 [some (.int 120)] [.int 1] h rfl ?_
  exact am_ret2 rfl rfl rfl rfl rfl
theorem sp_J1_canEncode_9a6ad_121 (d : Nat) (h : am_H) : am_X xs LL (d + 1) 221 [.int 121] h (some (.int 1)) h := by
  refine am_XR (d := d + 0) (C := cd_J1_canEncode_9a6ad) (L := [some (.int 121)]) rfl rfl rfl rfl ?_
  refine am_g 6 12 [some (.int 121)] [.int 1] h rfl ?_
  refine am_g 1 16 [some (.int 121)] [.int 1] h rfl ?_
  exact am_ret2 rfl rfl rfl rfl rfl
theorem sp_J1_canEncode_9a6ad_122 (d : Nat) (h : am_H) : am_X xs LL (d + 1) 221 [.int 122] h (some (.int 1)) h := by
  refine am_XR (d := d + 0) (C := cd_J1_canEncode_9a6ad) (L := [some (.int 122)]) rfl rfl rfl rfl ?_
  refine am_g 6 12 [some (.int 122)] [.int 1] h rfl ?_
  refine am_g 1 16 [some (.int 122)] [.int 1] h rfl ?_
  exact am_ret2 rfl rfl rfl rfl rfl
theorem sp_J1_canEncode_9a6ad_55 (d : Nat) (h : am_H) : am_X xs LL (d + 1) 221 [.int 55] h (some (.int 1)) h := by
  refine am_XR (d := d + 0) (C := cd_J1_canEncode_9a6ad) (L := [some (.int 55)]) rfl rfl rfl rfl ?_
  refine am_g 6 12 [some (.int 55)] [.int 1] h rfl ?_
  refine am_g 1 16 [some (.int 55)] [.int 1] h rfl ?_
  exact am_ret2 rfl rfl rfl rfl rfl
theorem sp_J1_canEncode_9a6ad_50 (d : Nat) (h : am_H) : am_X xs LL (d + 1) 221 [.int 50] h (some (.int 1)) h := by
  refine am_XR (d := d + 0) (C := cd_J1_canEncode_9a6ad) (L := [some (.int 50)]) rfl rfl rfl rfl ?_
  refine am_g 6 12 [some (.int 50)] [.int 1] h rfl ?_
  refine am_g 1 16 [some (.int 50)] [.int 1] h rfl ?_
  exact am_ret2 rfl rfl rfl rfl rfl
theorem sp_J1_indexOfChar_4cfef_1_120 (d : Nat) (h : am_H) : am_X xs LL (d + 1) 222 [.ref 7, .int 120, .int 0, .int 5] h (some (.int 0)) h := by
  refine am_XR (d := d + 0) (C := cd_J1_indexOfChar_4cfef) (L := [some (.ref 7), some (.int 120), some (.int 0), some (.int 5), none, none]) rfl rfl rfl rfl ?_
  refine am_g 6 9 [some (.ref 7), some (.int 120), some (.int 0), some (.int 5), some (.int 120), some (.int 0)] [.int 0] h rfl ?_
  refine am_g 6 19 [some (.ref 7), some (.int 120), some (.int 0), some (.int 5), some (.int 120), some (.int 0)] [.int 120, .int 120] h rfl ?_
  refine am_g 2 24 [some (.ref 7), some (.int 120), some (.int 0), some (.int 5), some (.int 120), some (.int 0)] [.int 0] h rfl ?_
  exact am_ret2 rfl rfl rfl rfl rfl
theorem sp_J1_indexOf_4cfef_1_120 (d : Nat) (h : am_H) : am_X xs LL (d + 2) 220 [.ref 7, .int 120, .int 0, .int 5] h (some (.int 0)) h := by
  refine am_XR (d := d + 1) (C := cd_J1_indexOf_4cfef) (L := [some (.ref 7), some (.int 120), some (.int 0), some (.int 5)]) rfl rfl rfl rfl ?_
  refine am_g 1 1 [some (.ref 7), some (.int 120), some (.int 0), some (.int 5)] [.int 120] h rfl ?_
  refine am_call (y := 221) (vs := [.int 120]) (rest := []) (v := (some (.int 1))) (h1 := h) rfl rfl rfl (sp_J1_canEncode_9a6ad_120 d _) ?_
  refine am_g 6 16 [some (.ref 7), some (.int 120), some (.int 0), some (.int 5)] [.int 5] h rfl ?_
  refine am_g 6 24 [some (.ref 7), some (.int 120), some (.int 0), some (.int 5)] [.int 5, .int 0] h rfl ?_
  refine am_g 5 33 [some (.ref 7), some (.int 120), some (.int 0), some (.int 5)] [.int 5, .int 0, .int 120, .ref 7] h rfl ?_
  refine am_call (y := 222) (vs := [.ref 7, .int 120, .int 0, .int 5]) (rest := []) (v := (some (.int 0))) (h1 := h) rfl rfl rfl (sp_J1_indexOfChar_4cfef_1_120 d _) ?_
  exact am_ret2 rfl rfl rfl rfl rfl
theorem sp_J0_indexOf_7cf53_1_120 (d : Nat) (h : am_H) : am_X xs LL (d + 3) 217 [.ref 1, .int 120, .int 0] h (some (.int 0)) h := by
  refine am_XR (d := d + 2) (C := cd_J0_indexOf_7cf53) (L := [some (.ref 1), some (.int 120), some (.int 0)]) rfl rfl rfl rfl ?_
  refine am_g 1 1 [some (.ref 1), some (.int 120), some (.int 0)] [.ref 1] h rfl ?_
  refine am_call (y := 216) (vs := [.ref 1]) (rest := []) (v := (some (.int 1))) (h1 := h) rfl rfl rfl (sp_J0_isLatin1_aae02_1 (d + 1) _) ?_
  refine am_g 6 14 [some (.ref 1), some (.int 120), some (.int 0)] [.ref 1, .int 0, .int 120, .ref 7] h rfl ?_
  refine am_call (y := 212) (vs := [.ref 1]) (rest := [.int 0, .int 120, .ref 7]) (v := (some (.int 5))) (h1 := h) rfl rfl rfl (sp_J0_length_8abf5_1 d _) ?_
  refine am_call (y := 220) (vs := [.ref 7, .int 120, .int 0, .int 5]) (rest := []) (v := (some (.int 0))) (h1 := h) rfl rfl rfl (sp_J1_indexOf_4cfef_1_120 d _) ?_
  refine am_g 1 36 [some (.ref 1), some (.int 120), some (.int 0)] [.int 0] h rfl ?_
  exact am_ret2 rfl rfl rfl rfl rfl
theorem sp_J0_indexOf_0f7a4_1_120 (d : Nat) (h : am_H) : am_X xs LL (d + 4) 214 [.ref 1, .int 120] h (some (.int 0)) h := by
  refine am_XR (d := d + 3) (C := cd_J0_indexOf_0f7a4) (L := [some (.ref 1), some (.int 120)]) rfl rfl rfl rfl ?_
  refine am_g 3 3 [some (.ref 1), some (.int 120)] [.int 0, .int 120, .ref 1] h rfl ?_
  refine am_call (y := 217) (vs := [.ref 1, .int 120, .int 0]) (rest := []) (v := (some (.int 0))) (h1 := h) rfl rfl rfl (sp_J0_indexOf_7cf53_1_120 d _) ?_
  exact am_ret2 rfl rfl rfl rfl rfl
theorem sp_J1_indexOfChar_4cfef_1_121 (d : Nat) (h : am_H) : am_X xs LL (d + 1) 222 [.ref 7, .int 121, .int 0, .int 5] h (some (.int 2)) h := by
  refine am_XR (d := d + 0) (C := cd_J1_indexOfChar_4cfef) (L := [some (.ref 7), some (.int 121), some (.int 0), some (.int 5), none, none]) rfl rfl rfl rfl ?_
  refine am_g 6 9 [some (.ref 7), some (.int 121), some (.int 0), some (.int 5), some (.int 121), some (.int 0)] [.int 0] h rfl ?_
  refine am_g 6 19 [some (.ref 7), some (.int 121), some (.int 0), some (.int 5), some (.int 121), some (.int 0)] [.int 121, .int 120] h rfl ?_
  refine am_g 6 13 [some (.ref 7), some (.int 121), some (.int 0), some (.int 5), some (.int 121), some (.int 1)] [] h rfl ?_
  refine am_g 6 28 [some (.ref 7), some (.int 121), some (.int 0), some (.int 5), some (.int 121), some (.int 2)] [] h rfl ?_
  refine am_g 6 16 [some (.ref 7), some (.int 121), some (.int 0), some (.int 5), some (.int 121), some (.int 2)] [.int 2, .ref 7] h rfl ?_
  refine am_g 4 24 [some (.ref 7), some (.int 121), some (.int 0), some (.int 5), some (.int 121), some (.int 2)] [.int 2] h rfl ?_
  exact am_ret2 rfl rfl rfl rfl rfl
theorem sp_J1_indexOf_4cfef_1_121 (d : Nat) (h : am_H) : am_X xs LL (d + 2) 220 [.ref 7, .int 121, .int 0, .int 5] h (some (.int 2)) h := by
  refine am_XR (d := d + 1) (C := cd_J1_indexOf_4cfef) (L := [some (.ref 7), some (.int 121), some (.int 0), some (.int 5)]) rfl rfl rfl rfl ?_
  refine am_g 1 1 [some (.ref 7), some (.int 121), some (.int 0), some (.int 5)] [.int 121] h rfl ?_
  refine am_call (y := 221) (vs := [.int 121]) (rest := []) (v := (some (.int 1))) (h1 := h) rfl rfl rfl (sp_J1_canEncode_9a6ad_121 d _) ?_
  refine am_g 6 16 [some (.ref 7), some (.int 121), some (.int 0), some (.int 5)] [.int 5] h rfl ?_
  refine am_g 6 24 [some (.ref 7), some (.int 121), some (.int 0), some (.int 5)] [.int 5, .int 0] h rfl ?_
  refine am_g 5 33 [some (.ref 7), some (.int 121), some (.int 0), some (.int 5)] [.int 5, .int 0, .int 121, .ref 7] h rfl ?_
  refine am_call (y := 222) (vs := [.ref 7, .int 121, .int 0, .int 5]) (rest := []) (v := (some (.int 2))) (h1 := h) rfl rfl rfl (sp_J1_indexOfChar_4cfef_1_121 d _) ?_
  exact am_ret2 rfl rfl rfl rfl rfl
theorem sp_J0_indexOf_7cf53_1_121 (d : Nat) (h : am_H) : am_X xs LL (d + 3) 217 [.ref 1, .int 121, .int 0] h (some (.int 2)) h := by
  refine am_XR (d := d + 2) (C := cd_J0_indexOf_7cf53) (L := [some (.ref 1), some (.int 121), some (.int 0)]) rfl rfl rfl rfl ?_
  refine am_g 1 1 [some (.ref 1), some (.int 121), some (.int 0)] [.ref 1] h rfl ?_
  refine am_call (y := 216) (vs := [.ref 1]) (rest := []) (v := (some (.int 1))) (h1 := h) rfl rfl rfl (sp_J0_isLatin1_aae02_1 (d + 1) _) ?_
  refine am_g 6 14 [some (.ref 1), some (.int 121), some (.int 0)] [.ref 1, .int 0, .int 121, .ref 7] h rfl ?_
  refine am_call (y := 212) (vs := [.ref 1]) (rest := [.int 0, .int 121, .ref 7]) (v := (some (.int 5))) (h1 := h) rfl rfl rfl (sp_J0_length_8abf5_1 d _) ?_
  refine am_call (y := 220) (vs := [.ref 7, .int 121, .int 0, .int 5]) (rest := []) (v := (some (.int 2))) (h1 := h) rfl rfl rfl (sp_J1_indexOf_4cfef_1_121 d _) ?_
  refine am_g 1 36 [some (.ref 1), some (.int 121), some (.int 0)] [.int 2] h rfl ?_
  exact am_ret2 rfl rfl rfl rfl rfl
theorem sp_J0_indexOf_0f7a4_1_121 (d : Nat) (h : am_H) : am_X xs LL (d + 4) 214 [.ref 1, .int 121] h (some (.int 2)) h := by
  refine am_XR (d := d + 3) (C := cd_J0_indexOf_0f7a4) (L := [some (.ref 1), some (.int 121)]) rfl rfl rfl rfl ?_
  refine am_g 3 3 [some (.ref 1), some (.int 121)] [.int 0, .int 121, .ref 1] h rfl ?_
  refine am_call (y := 217) (vs := [.ref 1, .int 121, .int 0]) (rest := []) (v := (some (.int 2))) (h1 := h) rfl rfl rfl (sp_J0_indexOf_7cf53_1_121 d _) ?_
  exact am_ret2 rfl rfl rfl rfl rfl
theorem sp_J1_indexOfChar_4cfef_1_55 (d : Nat) (h : am_H) : am_X xs LL (d + 1) 222 [.ref 7, .int 55, .int 0, .int 5] h (some (.int 4)) h := by
  refine am_XR (d := d + 0) (C := cd_J1_indexOfChar_4cfef) (L := [some (.ref 7), some (.int 55), some (.int 0), some (.int 5), none, none]) rfl rfl rfl rfl ?_
  refine am_g 6 9 [some (.ref 7), some (.int 55), some (.int 0), some (.int 5), some (.int 55), some (.int 0)] [.int 0] h rfl ?_
  refine am_g 6 19 [some (.ref 7), some (.int 55), some (.int 0), some (.int 5), some (.int 55), some (.int 0)] [.int 55, .int 120] h rfl ?_
  refine am_g 6 13 [some (.ref 7), some (.int 55), some (.int 0), some (.int 5), some (.int 55), some (.int 1)] [] h rfl ?_
  refine am_g 6 28 [some (.ref 7), some (.int 55), some (.int 0), some (.int 5), some (.int 55), some (.int 2)] [] h rfl ?_
  refine am_g 6 16 [some (.ref 7), some (.int 55), some (.int 0), some (.int 5), some (.int 55), some (.int 2)] [.int 2, .ref 7] h rfl ?_
  refine am_g 6 9 [some (.ref 7), some (.int 55), some (.int 0), some (.int 5), some (.int 55), some (.int 3)] [.int 3] h rfl ?_
  refine am_g 6 19 [some (.ref 7), some (.int 55), some (.int 0), some (.int 5), some (.int 55), some (.int 3)] [.int 55, .int 47] h rfl ?_
  refine am_g 6 13 [some (.ref 7), some (.int 55), some (.int 0), some (.int 5), some (.int 55), some (.int 4)] [] h rfl ?_
  refine am_g 6 24 [some (.ref 7), some (.int 55), some (.int 0), some (.int 5), some (.int 55), some (.int 4)] [.int 4] h rfl ?_
  exact am_ret2 rfl rfl rfl rfl rfl
theorem sp_J1_indexOf_4cfef_1_55 (d : Nat) (h : am_H) : am_X xs LL (d + 2) 220 [.ref 7, .int 55, .int 0, .int 5] h (some (.int 4)) h := by
  refine am_XR (d := d + 1) (C := cd_J1_indexOf_4cfef) (L := [some (.ref 7), some (.int 55), some (.int 0), some (.int 5)]) rfl rfl rfl rfl ?_
  refine am_g 1 1 [some (.ref 7), some (.int 55), some (.int 0), some (.int 5)] [.int 55] h rfl ?_
  refine am_call (y := 221) (vs := [.int 55]) (rest := []) (v := (some (.int 1))) (h1 := h) rfl rfl rfl (sp_J1_canEncode_9a6ad_55 d _) ?_
  refine am_g 6 16 [some (.ref 7), some (.int 55), some (.int 0), some (.int 5)] [.int 5] h rfl ?_
  refine am_g 6 24 [some (.ref 7), some (.int 55), some (.int 0), some (.int 5)] [.int 5, .int 0] h rfl ?_
  refine am_g 5 33 [some (.ref 7), some (.int 55), some (.int 0), some (.int 5)] [.int 5, .int 0, .int 55, .ref 7] h rfl ?_
  refine am_call (y := 222) (vs := [.ref 7, .int 55, .int 0, .int 5]) (rest := []) (v := (some (.int 4))) (h1 := h) rfl rfl rfl (sp_J1_indexOfChar_4cfef_1_55 d _) ?_
  exact am_ret2 rfl rfl rfl rfl rfl
theorem sp_J0_indexOf_7cf53_1_55 (d : Nat) (h : am_H) : am_X xs LL (d + 3) 217 [.ref 1, .int 55, .int 0] h (some (.int 4)) h := by
  refine am_XR (d := d + 2) (C := cd_J0_indexOf_7cf53) (L := [some (.ref 1), some (.int 55), some (.int 0)]) rfl rfl rfl rfl ?_
  refine am_g 1 1 [some (.ref 1), some (.int 55), some (.int 0)] [.ref 1] h rfl ?_
  refine am_call (y := 216) (vs := [.ref 1]) (rest := []) (v := (some (.int 1))) (h1 := h) rfl rfl rfl (sp_J0_isLatin1_aae02_1 (d + 1) _) ?_
  refine am_g 6 14 [some (.ref 1), some (.int 55), some (.int 0)] [.ref 1, .int 0, .int 55, .ref 7] h rfl ?_
  refine am_call (y := 212) (vs := [.ref 1]) (rest := [.int 0, .int 55, .ref 7]) (v := (some (.int 5))) (h1 := h) rfl rfl rfl (sp_J0_length_8abf5_1 d _) ?_
  refine am_call (y := 220) (vs := [.ref 7, .int 55, .int 0, .int 5]) (rest := []) (v := (some (.int 4))) (h1 := h) rfl rfl rfl (sp_J1_indexOf_4cfef_1_55 d _) ?_
  refine am_g 1 36 [some (.ref 1), some (.int 55), some (.int 0)] [.int 4] h rfl ?_
  exact am_ret2 rfl rfl rfl rfl rfl
theorem sp_J0_indexOf_0f7a4_1_55 (d : Nat) (h : am_H) : am_X xs LL (d + 4) 214 [.ref 1, .int 55] h (some (.int 4)) h := by
  refine am_XR (d := d + 3) (C := cd_J0_indexOf_0f7a4) (L := [some (.ref 1), some (.int 55)]) rfl rfl rfl rfl ?_
  refine am_g 3 3 [some (.ref 1), some (.int 55)] [.int 0, .int 55, .ref 1] h rfl ?_
  refine am_call (y := 217) (vs := [.ref 1, .int 55, .int 0]) (rest := []) (v := (some (.int 4))) (h1 := h) rfl rfl rfl (sp_J0_indexOf_7cf53_1_55 d _) ?_
  exact am_ret2 rfl rfl rfl rfl rfl
theorem sp_J1_indexOfChar_4cfef_1_50 (d : Nat) (h : am_H) : am_X xs LL (d + 1) 222 [.ref 7, .int 50, .int 0, .int 5] h (some (.int (-1))) h := by
  refine am_XR (d := d + 0) (C := cd_J1_indexOfChar_4cfef) (L := [some (.ref 7), some (.int 50), some (.int 0), some (.int 5), none, none]) rfl rfl rfl rfl ?_
  refine am_g 6 9 [some (.ref 7), some (.int 50), some (.int 0), some (.int 5), some (.int 50), some (.int 0)] [.int 0] h rfl ?_
  refine am_g 6 19 [some (.ref 7), some (.int 50), some (.int 0), some (.int 5), some (.int 50), some (.int 0)] [.int 50, .int 120] h rfl ?_
  refine am_g 6 13 [some (.ref 7), some (.int 50), some (.int 0), some (.int 5), some (.int 50), some (.int 1)] [] h rfl ?_
  refine am_g 6 28 [some (.ref 7), some (.int 50), some (.int 0), some (.int 5), some (.int 50), some (.int 2)] [] h rfl ?_
  refine am_g 6 16 [some (.ref 7), some (.int 50), some (.int 0), some (.int 5), some (.int 50), some (.int 2)] [.int 2, .ref 7] h rfl ?_
  refine am_g 6 9 [some (.ref 7), some (.int 50), some (.int 0), some (.int 5), some (.int 50), some (.int 3)] [.int 3] h rfl ?_
  refine am_g 6 19 [some (.ref 7), some (.int 50), some (.int 0), some (.int 5), some (.int 50), some (.int 3)] [.int 50, .int 47] h rfl ?_
  refine am_g 6 13 [some (.ref 7), some (.int 50), some (.int 0), some (.int 5), some (.int 50), some (.int 4)] [] h rfl ?_
  refine am_g 6 28 [some (.ref 7), some (.int 50), some (.int 0), some (.int 5), some (.int 50), some (.int 5)] [] h rfl ?_
  refine am_g 5 32 [some (.ref 7), some (.int 50), some (.int 0), some (.int 5), some (.int 50), some (.int 5)] [.int (-1)] h rfl ?_
  exact am_ret2 rfl rfl rfl rfl rfl
theorem sp_J1_indexOf_4cfef_1_50 (d : Nat) (h : am_H) : am_X xs LL (d + 2) 220 [.ref 7, .int 50, .int 0, .int 5] h (some (.int (-1))) h := by
  refine am_XR (d := d + 1) (C := cd_J1_indexOf_4cfef) (L := [some (.ref 7), some (.int 50), some (.int 0), some (.int 5)]) rfl rfl rfl rfl ?_
  refine am_g 1 1 [some (.ref 7), some (.int 50), some (.int 0), some (.int 5)] [.int 50] h rfl ?_
  refine am_call (y := 221) (vs := [.int 50]) (rest := []) (v := (some (.int 1))) (h1 := h) rfl rfl rfl (sp_J1_canEncode_9a6ad_50 d _) ?_
  refine am_g 6 16 [some (.ref 7), some (.int 50), some (.int 0), some (.int 5)] [.int 5] h rfl ?_
  refine am_g 6 24 [some (.ref 7), some (.int 50), some (.int 0), some (.int 5)] [.int 5, .int 0] h rfl ?_
  refine am_g 5 33 [some (.ref 7), some (.int 50), some (.int 0), some (.int 5)] [.int 5, .int 0, .int 50, .ref 7] h rfl ?_
  refine am_call (y := 222) (vs := [.ref 7, .int 50, .int 0, .int 5]) (rest := []) (v := (some (.int (-1)))) (h1 := h) rfl rfl rfl (sp_J1_indexOfChar_4cfef_1_50 d _) ?_
  exact am_ret2 rfl rfl rfl rfl rfl
theorem sp_J0_indexOf_7cf53_1_50 (d : Nat) (h : am_H) : am_X xs LL (d + 3) 217 [.ref 1, .int 50, .int 0] h (some (.int (-1))) h := by
  refine am_XR (d := d + 2) (C := cd_J0_indexOf_7cf53) (L := [some (.ref 1), some (.int 50), some (.int 0)]) rfl rfl rfl rfl ?_
  refine am_g 1 1 [some (.ref 1), some (.int 50), some (.int 0)] [.ref 1] h rfl ?_
  refine am_call (y := 216) (vs := [.ref 1]) (rest := []) (v := (some (.int 1))) (h1 := h) rfl rfl rfl (sp_J0_isLatin1_aae02_1 (d + 1) _) ?_
  refine am_g 6 14 [some (.ref 1), some (.int 50), some (.int 0)] [.ref 1, .int 0, .int 50, .ref 7] h rfl ?_
  refine am_call (y := 212) (vs := [.ref 1]) (rest := [.int 0, .int 50, .ref 7]) (v := (some (.int 5))) (h1 := h) rfl rfl rfl (sp_J0_length_8abf5_1 d _) ?_
  refine am_call (y := 220) (vs := [.ref 7, .int 50, .int 0, .int 5]) (rest := []) (v := (some (.int (-1)))) (h1 := h) rfl rfl rfl (sp_J1_indexOf_4cfef_1_50 d _) ?_
  refine am_g 1 36 [some (.ref 1), some (.int 50), some (.int 0)] [.int (-1)] h rfl ?_
  exact am_ret2 rfl rfl rfl rfl rfl
theorem sp_J0_indexOf_0f7a4_1_50 (d : Nat) (h : am_H) : am_X xs LL (d + 4) 214 [.ref 1, .int 50] h (some (.int (-1))) h := by
  refine am_XR (d := d + 3) (C := cd_J0_indexOf_0f7a4) (L := [some (.ref 1), some (.int 50)]) rfl rfl rfl rfl ?_
  refine am_g 3 3 [some (.ref 1), some (.int 50)] [.int 0, .int 50, .ref 1] h rfl ?_
  refine am_call (y := 217) (vs := [.ref 1, .int 50, .int 0]) (rest := []) (v := (some (.int (-1)))) (h1 := h) rfl rfl rfl (sp_J0_indexOf_7cf53_1_50 d _) ?_
  exact am_ret2 rfl rfl rfl rfl rfl
theorem sp_J1_indexOfChar_4cfef_2_120 (d : Nat) (h : am_H) : am_X xs LL (d + 1) 222 [.ref 8, .int 120, .int 0, .int 5] h (some (.int 0)) h := by
  refine am_XR (d := d + 0) (C := cd_J1_indexOfChar_4cfef) (L := [some (.ref 8), some (.int 120), some (.int 0), some (.int 5), none, none]) rfl rfl rfl rfl ?_
  refine am_g 6 9 [some (.ref 8), some (.int 120), some (.int 0), some (.int 5), some (.int 120), some (.int 0)] [.int 0] h rfl ?_
  refine am_g 6 19 [some (.ref 8), some (.int 120), some (.int 0), some (.int 5), some (.int 120), some (.int 0)] [.int 120, .int 120] h rfl ?_
  refine am_g 2 24 [some (.ref 8), some (.int 120), some (.int 0), some (.int 5), some (.int 120), some (.int 0)] [.int 0] h rfl ?_
  exact am_ret2 rfl rfl rfl rfl rfl
theorem sp_J1_indexOf_4cfef_2_120 (d : Nat) (h : am_H) : am_X xs LL (d + 2) 220 [.ref 8, .int 120, .int 0, .int 5] h (some (.int 0)) h := by
  refine am_XR (d := d + 1) (C := cd_J1_indexOf_4cfef) (L := [some (.ref 8), some (.int 120), some (.int 0), some (.int 5)]) rfl rfl rfl rfl ?_
  refine am_g 1 1 [some (.ref 8), some (.int 120), some (.int 0), some (.int 5)] [.int 120] h rfl ?_
  refine am_call (y := 221) (vs := [.int 120]) (rest := []) (v := (some (.int 1))) (h1 := h) rfl rfl rfl (sp_J1_canEncode_9a6ad_120 d _) ?_
  refine am_g 6 16 [some (.ref 8), some (.int 120), some (.int 0), some (.int 5)] [.int 5] h rfl ?_
  refine am_g 6 24 [some (.ref 8), some (.int 120), some (.int 0), some (.int 5)] [.int 5, .int 0] h rfl ?_
  refine am_g 5 33 [some (.ref 8), some (.int 120), some (.int 0), some (.int 5)] [.int 5, .int 0, .int 120, .ref 8] h rfl ?_
  refine am_call (y := 222) (vs := [.ref 8, .int 120, .int 0, .int 5]) (rest := []) (v := (some (.int 0))) (h1 := h) rfl rfl rfl (sp_J1_indexOfChar_4cfef_2_120 d _) ?_
  exact am_ret2 rfl rfl rfl rfl rfl
theorem sp_J0_indexOf_7cf53_2_120 (d : Nat) (h : am_H) : am_X xs LL (d + 3) 217 [.ref 2, .int 120, .int 0] h (some (.int 0)) h := by
  refine am_XR (d := d + 2) (C := cd_J0_indexOf_7cf53) (L := [some (.ref 2), some (.int 120), some (.int 0)]) rfl rfl rfl rfl ?_
  refine am_g 1 1 [some (.ref 2), some (.int 120), some (.int 0)] [.ref 2] h rfl ?_
  refine am_call (y := 216) (vs := [.ref 2]) (rest := []) (v := (some (.int 1))) (h1 := h) rfl rfl rfl (sp_J0_isLatin1_aae02_2 (d + 1) _) ?_
  refine am_g 6 14 [some (.ref 2), some (.int 120), some (.int 0)] [.ref 2, .int 0, .int 120, .ref 8] h rfl ?_
  refine am_call (y := 212) (vs := [.ref 2]) (rest := [.int 0, .int 120, .ref 8]) (v := (some (.int 5))) (h1 := h) rfl rfl rfl (sp_J0_length_8abf5_2 d _) ?_
  refine am_call (y := 220) (vs := [.ref 8, .int 120, .int 0, .int 5]) (rest := []) (v := (some (.int 0))) (h1 := h) rfl rfl rfl (sp_J1_indexOf_4cfef_2_120 d _) ?_
  refine am_g 1 36 [some (.ref 2), some (.int 120), some (.int 0)] [.int 0] h rfl ?_
  exact am_ret2 rfl rfl rfl rfl rfl
theorem sp_J0_indexOf_0f7a4_2_120 (d : Nat) (h : am_H) : am_X xs LL (d + 4) 214 [.ref 2, .int 120] h (some (.int 0)) h := by
  refine am_XR (d := d + 3) (C := cd_J0_indexOf_0f7a4) (L := [some (.ref 2), some (.int 120)]) rfl rfl rfl rfl ?_
  refine am_g 3 3 [some (.ref 2), some (.int 120)] [.int 0, .int 120, .ref 2] h rfl ?_
  refine am_call (y := 217) (vs := [.ref 2, .int 120, .int 0]) (rest := []) (v := (some (.int 0))) (h1 := h) rfl rfl rfl (sp_J0_indexOf_7cf53_2_120 d _) ?_
  exact am_ret2 rfl rfl rfl rfl rfl
theorem sp_J1_indexOfChar_4cfef_2_121 (d : Nat) (h : am_H) : am_X xs LL (d + 1) 222 [.ref 8, .int 121, .int 0, .int 5] h (some (.int 2)) h := by
  refine am_XR (d := d + 0) (C := cd_J1_indexOfChar_4cfef) (L := [some (.ref 8), some (.int 121), some (.int 0), some (.int 5), none, none]) rfl rfl rfl rfl ?_
  refine am_g 6 9 [some (.ref 8), some (.int 121), some (.int 0), some (.int 5), some (.int 121), some (.int 0)] [.int 0] h rfl ?_
  refine am_g 6 19 [some (.ref 8), some (.int 121), some (.int 0), some (.int 5), some (.int 121), some (.int 0)] [.int 121, .int 120] h rfl ?_
  refine am_g 6 13 [some (.ref 8), some (.int 121), some (.int 0), some (.int 5), some (.int 121), some (.int 1)] [] h rfl ?_
  refine am_g 6 28 [some (.ref 8), some (.int 121), some (.int 0), some (.int 5), some (.int 121), some (.int 2)] [] h rfl ?_
  refine am_g 6 16 [some (.ref 8), some (.int 121), some (.int 0), some (.int 5), some (.int 121), some (.int 2)] [.int 2, .ref 8] h rfl ?_
  refine am_g 4 24 [some (.ref 8), some (.int 121), some (.int 0), some (.int 5), some (.int 121), some (.int 2)] [.int 2] h rfl ?_
  exact am_ret2 rfl rfl rfl rfl rfl
theorem sp_J1_indexOf_4cfef_2_121 (d : Nat) (h : am_H) : am_X xs LL (d + 2) 220 [.ref 8, .int 121, .int 0, .int 5] h (some (.int 2)) h := by
  refine am_XR (d := d + 1) (C := cd_J1_indexOf_4cfef) (L := [some (.ref 8), some (.int 121), some (.int 0), some (.int 5)]) rfl rfl rfl rfl ?_
  refine am_g 1 1 [some (.ref 8), some (.int 121), some (.int 0), some (.int 5)] [.int 121] h rfl ?_
  refine am_call (y := 221) (vs := [.int 121]) (rest := []) (v := (some (.int 1))) (h1 := h) rfl rfl rfl (sp_J1_canEncode_9a6ad_121 d _) ?_
  refine am_g 6 16 [some (.ref 8), some (.int 121), some (.int 0), some (.int 5)] [.int 5] h rfl ?_
  refine am_g 6 24 [some (.ref 8), some (.int 121), some (.int 0), some (.int 5)] [.int 5, .int 0] h rfl ?_
  refine am_g 5 33 [some (.ref 8), some (.int 121), some (.int 0), some (.int 5)] [.int 5, .int 0, .int 121, .ref 8] h rfl ?_
  refine am_call (y := 222) (vs := [.ref 8, .int 121, .int 0, .int 5]) (rest := []) (v := (some (.int 2))) (h1 := h) rfl rfl rfl (sp_J1_indexOfChar_4cfef_2_121 d _) ?_
  exact am_ret2 rfl rfl rfl rfl rfl
theorem sp_J0_indexOf_7cf53_2_121 (d : Nat) (h : am_H) : am_X xs LL (d + 3) 217 [.ref 2, .int 121, .int 0] h (some (.int 2)) h := by
  refine am_XR (d := d + 2) (C := cd_J0_indexOf_7cf53) (L := [some (.ref 2), some (.int 121), some (.int 0)]) rfl rfl rfl rfl ?_
  refine am_g 1 1 [some (.ref 2), some (.int 121), some (.int 0)] [.ref 2] h rfl ?_
  refine am_call (y := 216) (vs := [.ref 2]) (rest := []) (v := (some (.int 1))) (h1 := h) rfl rfl rfl (sp_J0_isLatin1_aae02_2 (d + 1) _) ?_
  refine am_g 6 14 [some (.ref 2), some (.int 121), some (.int 0)] [.ref 2, .int 0, .int 121, .ref 8] h rfl ?_
  refine am_call (y := 212) (vs := [.ref 2]) (rest := [.int 0, .int 121, .ref 8]) (v := (some (.int 5))) (h1 := h) rfl rfl rfl (sp_J0_length_8abf5_2 d _) ?_
  refine am_call (y := 220) (vs := [.ref 8, .int 121, .int 0, .int 5]) (rest := []) (v := (some (.int 2))) (h1 := h) rfl rfl rfl (sp_J1_indexOf_4cfef_2_121 d _) ?_
  refine am_g 1 36 [some (.ref 2), some (.int 121), some (.int 0)] [.int 2] h rfl ?_
  exact am_ret2 rfl rfl rfl rfl rfl
theorem sp_J0_indexOf_0f7a4_2_121 (d : Nat) (h : am_H) : am_X xs LL (d + 4) 214 [.ref 2, .int 121] h (some (.int 2)) h := by
  refine am_XR (d := d + 3) (C := cd_J0_indexOf_0f7a4) (L := [some (.ref 2), some (.int 121)]) rfl rfl rfl rfl ?_
  refine am_g 3 3 [some (.ref 2), some (.int 121)] [.int 0, .int 121, .ref 2] h rfl ?_
  refine am_call (y := 217) (vs := [.ref 2, .int 121, .int 0]) (rest := []) (v := (some (.int 2))) (h1 := h) rfl rfl rfl (sp_J0_indexOf_7cf53_2_121 d _) ?_
  exact am_ret2 rfl rfl rfl rfl rfl
theorem sp_J1_indexOfChar_4cfef_2_55 (d : Nat) (h : am_H) : am_X xs LL (d + 1) 222 [.ref 8, .int 55, .int 0, .int 5] h (some (.int (-1))) h := by
  refine am_XR (d := d + 0) (C := cd_J1_indexOfChar_4cfef) (L := [some (.ref 8), some (.int 55), some (.int 0), some (.int 5), none, none]) rfl rfl rfl rfl ?_
  refine am_g 6 9 [some (.ref 8), some (.int 55), some (.int 0), some (.int 5), some (.int 55), some (.int 0)] [.int 0] h rfl ?_
  refine am_g 6 19 [some (.ref 8), some (.int 55), some (.int 0), some (.int 5), some (.int 55), some (.int 0)] [.int 55, .int 120] h rfl ?_
  refine am_g 6 13 [some (.ref 8), some (.int 55), some (.int 0), some (.int 5), some (.int 55), some (.int 1)] [] h rfl ?_
  refine am_g 6 28 [some (.ref 8), some (.int 55), some (.int 0), some (.int 5), some (.int 55), some (.int 2)] [] h rfl ?_
  refine am_g 6 16 [some (.ref 8), some (.int 55), some (.int 0), some (.int 5), some (.int 55), some (.int 2)] [.int 2, .ref 8] h rfl ?_
  refine am_g 6 9 [some (.ref 8), some (.int 55), some (.int 0), some (.int 5), some (.int 55), some (.int 3)] [.int 3] h rfl ?_
  refine am_g 6 19 [some (.ref 8), some (.int 55), some (.int 0), some (.int 5), some (.int 55), some (.int 3)] [.int 55, .int 46] h rfl ?_
  refine am_g 6 13 [some (.ref 8), some (.int 55), some (.int 0), some (.int 5), some (.int 55), some (.int 4)] [] h rfl ?_
  refine am_g 6 28 [some (.ref 8), some (.int 55), some (.int 0), some (.int 5), some (.int 55), some (.int 5)] [] h rfl ?_
  refine am_g 5 32 [some (.ref 8), some (.int 55), some (.int 0), some (.int 5), some (.int 55), some (.int 5)] [.int (-1)] h rfl ?_
  exact am_ret2 rfl rfl rfl rfl rfl
theorem sp_J1_indexOf_4cfef_2_55 (d : Nat) (h : am_H) : am_X xs LL (d + 2) 220 [.ref 8, .int 55, .int 0, .int 5] h (some (.int (-1))) h := by
  refine am_XR (d := d + 1) (C := cd_J1_indexOf_4cfef) (L := [some (.ref 8), some (.int 55), some (.int 0), some (.int 5)]) rfl rfl rfl rfl ?_
  refine am_g 1 1 [some (.ref 8), some (.int 55), some (.int 0), some (.int 5)] [.int 55] h rfl ?_
  refine am_call (y := 221) (vs := [.int 55]) (rest := []) (v := (some (.int 1))) (h1 := h) rfl rfl rfl (sp_J1_canEncode_9a6ad_55 d _) ?_
  refine am_g 6 16 [some (.ref 8), some (.int 55), some (.int 0), some (.int 5)] [.int 5] h rfl ?_
  refine am_g 6 24 [some (.ref 8), some (.int 55), some (.int 0), some (.int 5)] [.int 5, .int 0] h rfl ?_
  refine am_g 5 33 [some (.ref 8), some (.int 55), some (.int 0), some (.int 5)] [.int 5, .int 0, .int 55, .ref 8] h rfl ?_
  refine am_call (y := 222) (vs := [.ref 8, .int 55, .int 0, .int 5]) (rest := []) (v := (some (.int (-1)))) (h1 := h) rfl rfl rfl (sp_J1_indexOfChar_4cfef_2_55 d _) ?_
  exact am_ret2 rfl rfl rfl rfl rfl
theorem sp_J0_indexOf_7cf53_2_55 (d : Nat) (h : am_H) : am_X xs LL (d + 3) 217 [.ref 2, .int 55, .int 0] h (some (.int (-1))) h := by
  refine am_XR (d := d + 2) (C := cd_J0_indexOf_7cf53) (L := [some (.ref 2), some (.int 55), some (.int 0)]) rfl rfl rfl rfl ?_
  refine am_g 1 1 [some (.ref 2), some (.int 55), some (.int 0)] [.ref 2] h rfl ?_
  refine am_call (y := 216) (vs := [.ref 2]) (rest := []) (v := (some (.int 1))) (h1 := h) rfl rfl rfl (sp_J0_isLatin1_aae02_2 (d + 1) _) ?_
  refine am_g 6 14 [some (.ref 2), some (.int 55), some (.int 0)] [.ref 2, .int 0, .int 55, .ref 8] h rfl ?_
  refine am_call (y := 212) (vs := [.ref 2]) (rest := [.int 0, .int 55, .ref 8]) (v := (some (.int 5))) (h1 := h) rfl rfl rfl (sp_J0_length_8abf5_2 d _) ?_
  refine am_call (y := 220) (vs := [.ref 8, .int 55, .int 0, .int 5]) (rest := []) (v := (some (.int (-1)))) (h1 := h) rfl rfl rfl (sp_J1_indexOf_4cfef_2_55 d _) ?_
  refine am_g 1 36 [some (.ref 2), some (.int 55), some (.int 0)] [.int (-1)] h rfl ?_
  exact am_ret2 rfl rfl rfl rfl rfl
theorem sp_J0_indexOf_0f7a4_2_55 (d : Nat) (h : am_H) : am_X xs LL (d + 4) 214 [.ref 2, .int 55] h (some (.int (-1))) h := by
  refine am_XR (d := d + 3) (C := cd_J0_indexOf_0f7a4) (L := [some (.ref 2), some (.int 55)]) rfl rfl rfl rfl ?_
  refine am_g 3 3 [some (.ref 2), some (.int 55)] [.int 0, .int 55, .ref 2] h rfl ?_
  refine am_call (y := 217) (vs := [.ref 2, .int 55, .int 0]) (rest := []) (v := (some (.int (-1)))) (h1 := h) rfl rfl rfl (sp_J0_indexOf_7cf53_2_55 d _) ?_
  exact am_ret2 rfl rfl rfl rfl rfl
theorem sp_J1_indexOfChar_4cfef_2_50 (d : Nat) (h : am_H) : am_X xs LL (d + 1) 222 [.ref 8, .int 50, .int 0, .int 5] h (some (.int 4)) h := by
  refine am_XR (d := d + 0) (C := cd_J1_indexOfChar_4cfef) (L := [some (.ref 8), some (.int 50), some (.int 0), some (.int 5), none, none]) rfl rfl rfl rfl ?_
  refine am_g 6 9 [some (.ref 8), some (.int 50), some (.int 0), some (.int 5), some (.int 50), some (.int 0)] [.int 0] h rfl ?_
  refine am_g 6 19 [some (.ref 8), some (.int 50), some (.int 0), some (.int 5), some (.int 50), some (.int 0)] [.int 50, .int 120] h rfl ?_
  refine am_g 6 13 [some (.ref 8), some (.int 50), some (.int 0), some (.int 5), some (.int 50), some (.int 1)] [] h rfl ?_
  refine am_g 6 28 [some (.ref 8), some (.int 50), some (.int 0), some (.int 5), some (.int 50), some (.int 2)] [] h rfl ?_
  refine am_g 6 16 [some (.ref 8), some (.int 50), some (.int 0), some (.int 5), some (.int 50), some (.int 2)] [.int 2, .ref 8] h rfl ?_
  refine am_g 6 9 [some (.ref 8), some (.int 50), some (.int 0), some (.int 5), some (.int 50), some (.int 3)] [.int 3] h rfl ?_
  refine am_g 6 19 [some (.ref 8), some (.int 50), some (.int 0), some (.int 5), some (.int 50), some (.int 3)] [.int 50, .int 46] h rfl ?_
  refine am_g 6 13 [some (.ref 8), some (.int 50), some (.int 0), some (.int 5), some (.int 50), some (.int 4)] [] h rfl ?_
  refine am_g 6 24 [some (.ref 8), some (.int 50), some (.int 0), some (.int 5), some (.int 50), some (.int 4)] [.int 4] h rfl ?_
  exact am_ret2 rfl rfl rfl rfl rfl
theorem sp_J1_indexOf_4cfef_2_50 (d : Nat) (h : am_H) : am_X xs LL (d + 2) 220 [.ref 8, .int 50, .int 0, .int 5] h (some (.int 4)) h := by
  refine am_XR (d := d + 1) (C := cd_J1_indexOf_4cfef) (L := [some (.ref 8), some (.int 50), some (.int 0), some (.int 5)]) rfl rfl rfl rfl ?_
  refine am_g 1 1 [some (.ref 8), some (.int 50), some (.int 0), some (.int 5)] [.int 50] h rfl ?_
  refine am_call (y := 221) (vs := [.int 50]) (rest := []) (v := (some (.int 1))) (h1 := h) rfl rfl rfl (sp_J1_canEncode_9a6ad_50 d _) ?_
  refine am_g 6 16 [some (.ref 8), some (.int 50), some (.int 0), some (.int 5)] [.int 5] h rfl ?_
  refine am_g 6 24 [some (.ref 8), some (.int 50), some (.int 0), some (.int 5)] [.int 5, .int 0] h rfl ?_
  refine am_g 5 33 [some (.ref 8), some (.int 50), some (.int 0), some (.int 5)] [.int 5, .int 0, .int 50, .ref 8] h rfl ?_
  refine am_call (y := 222) (vs := [.ref 8, .int 50, .int 0, .int 5]) (rest := []) (v := (some (.int 4))) (h1 := h) rfl rfl rfl (sp_J1_indexOfChar_4cfef_2_50 d _) ?_
  exact am_ret2 rfl rfl rfl rfl rfl
theorem sp_J0_indexOf_7cf53_2_50 (d : Nat) (h : am_H) : am_X xs LL (d + 3) 217 [.ref 2, .int 50, .int 0] h (some (.int 4)) h := by
  refine am_XR (d := d + 2) (C := cd_J0_indexOf_7cf53) (L := [some (.ref 2), some (.int 50), some (.int 0)]) rfl rfl rfl rfl ?_
  refine am_g 1 1 [some (.ref 2), some (.int 50), some (.int 0)] [.ref 2] h rfl ?_
  refine am_call (y := 216) (vs := [.ref 2]) (rest := []) (v := (some (.int 1))) (h1 := h) rfl rfl rfl (sp_J0_isLatin1_aae02_2 (d + 1) _) ?_
  refine am_g 6 14 [some (.ref 2), some (.int 50), some (.int 0)] [.ref 2, .int 0, .int 50, .ref 8] h rfl ?_
  refine am_call (y := 212) (vs := [.ref 2]) (rest := [.int 0, .int 50, .ref 8]) (v := (some (.int 5))) (h1 := h) rfl rfl rfl (sp_J0_length_8abf5_2 d _) ?_
  refine am_call (y := 220) (vs := [.ref 8, .int 50, .int 0, .int 5]) (rest := []) (v := (some (.int 4))) (h1 := h) rfl rfl rfl (sp_J1_indexOf_4cfef_2_50 d _) ?_
  refine am_g 1 36 [some (.ref 2), some (.int 50), some (.int 0)] [.int 4] h rfl ?_
  exact am_ret2 rfl rfl rfl rfl rfl
theorem sp_J0_indexOf_0f7a4_2_50 (d : Nat) (h : am_H) : am_X xs LL (d + 4) 214 [.ref 2, .int 50] h (some (.int 4)) h := by
  refine am_XR (d := d + 3) (C := cd_J0_indexOf_0f7a4) (L := [some (.ref 2), some (.int 50)]) rfl rfl rfl rfl ?_
  refine am_g 3 3 [some (.ref 2), some (.int 50)] [.int 0, .int 50, .ref 2] h rfl ?_
  refine am_call (y := 217) (vs := [.ref 2, .int 50, .int 0]) (rest := []) (v := (some (.int 4))) (h1 := h) rfl rfl rfl (sp_J0_indexOf_7cf53_2_50 d _) ?_
  exact am_ret2 rfl rfl rfl rfl rfl
theorem sp_J1_indexOfChar_4cfef_3_120 (d : Nat) (h : am_H) : am_X xs LL (d + 1) 222 [.ref 9, .int 120, .int 0, .int 5] h (some (.int 0)) h := by
  refine am_XR (d := d + 0) (C := cd_J1_indexOfChar_4cfef) (L := [some (.ref 9), some (.int 120), some (.int 0), some (.int 5), none, none]) rfl rfl rfl rfl ?_
  refine am_g 6 9 [some (.ref 9), some (.int 120), some (.int 0), some (.int 5), some (.int 120), some (.int 0)] [.int 0] h rfl ?_
  refine am_g 6 19 [some (.ref 9), some (.int 120), some (.int 0), some (.int 5), some (.int 120), some (.int 0)] [.int 120, .int 120] h rfl ?_
  refine am_g 2 24 [some (.ref 9), some (.int 120), some (.int 0), some (.int 5), some (.int 120), some (.int 0)] [.int 0] h rfl ?_
  exact am_ret2 rfl rfl rfl rfl rfl
theorem sp_J1_indexOf_4cfef_3_120 (d : Nat) (h : am_H) : am_X xs LL (d + 2) 220 [.ref 9, .int 120, .int 0, .int 5] h (some (.int 0)) h := by
  refine am_XR (d := d + 1) (C := cd_J1_indexOf_4cfef) (L := [some (.ref 9), some (.int 120), some (.int 0), some (.int 5)]) rfl rfl rfl rfl ?_
  refine am_g 1 1 [some (.ref 9), some (.int 120), some (.int 0), some (.int 5)] [.int 120] h rfl ?_
  refine am_call (y := 221) (vs := [.int 120]) (rest := []) (v := (some (.int 1))) (h1 := h) rfl rfl rfl (sp_J1_canEncode_9a6ad_120 d _) ?_
  refine am_g 6 16 [some (.ref 9), some (.int 120), some (.int 0), some (.int 5)] [.int 5] h rfl ?_
  refine am_g 6 24 [some (.ref 9), some (.int 120), some (.int 0), some (.int 5)] [.int 5, .int 0] h rfl ?_
  refine am_g 5 33 [some (.ref 9), some (.int 120), some (.int 0), some (.int 5)] [.int 5, .int 0, .int 120, .ref 9] h rfl ?_
  refine am_call (y := 222) (vs := [.ref 9, .int 120, .int 0, .int 5]) (rest := []) (v := (some (.int 0))) (h1 := h) rfl rfl rfl (sp_J1_indexOfChar_4cfef_3_120 d _) ?_
  exact am_ret2 rfl rfl rfl rfl rfl
theorem sp_J0_indexOf_7cf53_3_120 (d : Nat) (h : am_H) : am_X xs LL (d + 3) 217 [.ref 3, .int 120, .int 0] h (some (.int 0)) h := by
  refine am_XR (d := d + 2) (C := cd_J0_indexOf_7cf53) (L := [some (.ref 3), some (.int 120), some (.int 0)]) rfl rfl rfl rfl ?_
  refine am_g 1 1 [some (.ref 3), some (.int 120), some (.int 0)] [.ref 3] h rfl ?_
  refine am_call (y := 216) (vs := [.ref 3]) (rest := []) (v := (some (.int 1))) (h1 := h) rfl rfl rfl (sp_J0_isLatin1_aae02_3 (d + 1) _) ?_
  refine am_g 6 14 [some (.ref 3), some (.int 120), some (.int 0)] [.ref 3, .int 0, .int 120, .ref 9] h rfl ?_
  refine am_call (y := 212) (vs := [.ref 3]) (rest := [.int 0, .int 120, .ref 9]) (v := (some (.int 5))) (h1 := h) rfl rfl rfl (sp_J0_length_8abf5_3 d _) ?_
  refine am_call (y := 220) (vs := [.ref 9, .int 120, .int 0, .int 5]) (rest := []) (v := (some (.int 0))) (h1 := h) rfl rfl rfl (sp_J1_indexOf_4cfef_3_120 d _) ?_
  refine am_g 1 36 [some (.ref 3), some (.int 120), some (.int 0)] [.int 0] h rfl ?_
  exact am_ret2 rfl rfl rfl rfl rfl
theorem sp_J0_indexOf_0f7a4_3_120 (d : Nat) (h : am_H) : am_X xs LL (d + 4) 214 [.ref 3, .int 120] h (some (.int 0)) h := by
  refine am_XR (d := d + 3) (C := cd_J0_indexOf_0f7a4) (L := [some (.ref 3), some (.int 120)]) rfl rfl rfl rfl ?_
  refine am_g 3 3 [some (.ref 3), some (.int 120)] [.int 0, .int 120, .ref 3] h rfl ?_
  refine am_call (y := 217) (vs := [.ref 3, .int 120, .int 0]) (rest := []) (v := (some (.int 0))) (h1 := h) rfl rfl rfl (sp_J0_indexOf_7cf53_3_120 d _) ?_
  exact am_ret2 rfl rfl rfl rfl rfl
theorem sp_J1_indexOfChar_4cfef_3_121 (d : Nat) (h : am_H) : am_X xs LL (d + 1) 222 [.ref 9, .int 121, .int 0, .int 5] h (some (.int 4)) h := by
  refine am_XR (d := d + 0) (C := cd_J1_indexOfChar_4cfef) (L := [some (.ref 9), some (.int 121), some (.int 0), some (.int 5), none, none]) rfl rfl rfl rfl ?_
  refine am_g 6 9 [some (.ref 9), some (.int 121), some (.int 0), some (.int 5), some (.int 121), some (.int 0)] [.int 0] h rfl ?_
  refine am_g 6 19 [some (.ref 9), some (.int 121), some (.int 0), some (.int 5), some (.int 121), some (.int 0)] [.int 121, .int 120] h rfl ?_
  refine am_g 6 13 [some (.ref 9), some (.int 121), some (.int 0), some (.int 5), some (.int 121), some (.int 1)] [] h rfl ?_
  refine am_g 6 28 [some (.ref 9), some (.int 121), some (.int 0), some (.int 5), some (.int 121), some (.int 2)] [] h rfl ?_
  refine am_g 6 16 [some (.ref 9), some (.int 121), some (.int 0), some (.int 5), some (.int 121), some (.int 2)] [.int 2, .ref 9] h rfl ?_
  refine am_g 6 9 [some (.ref 9), some (.int 121), some (.int 0), some (.int 5), some (.int 121), some (.int 3)] [.int 3] h rfl ?_
  refine am_g 6 19 [some (.ref 9), some (.int 121), some (.int 0), some (.int 5), some (.int 121), some (.int 3)] [.int 121, .int 61] h rfl ?_
  refine am_g 6 13 [some (.ref 9), some (.int 121), some (.int 0), some (.int 5), some (.int 121), some (.int 4)] [] h rfl ?_
  refine am_g 6 24 [some (.ref 9), some (.int 121), some (.int 0), some (.int 5), some (.int 121), some (.int 4)] [.int 4] h rfl ?_
  exact am_ret2 rfl rfl rfl rfl rfl
theorem sp_J1_indexOf_4cfef_3_121 (d : Nat) (h : am_H) : am_X xs LL (d + 2) 220 [.ref 9, .int 121, .int 0, .int 5] h (some (.int 4)) h := by
  refine am_XR (d := d + 1) (C := cd_J1_indexOf_4cfef) (L := [some (.ref 9), some (.int 121), some (.int 0), some (.int 5)]) rfl rfl rfl rfl ?_
  refine am_g 1 1 [some (.ref 9), some (.int 121), some (.int 0), some (.int 5)] [.int 121] h rfl ?_
  refine am_call (y := 221) (vs := [.int 121]) (rest := []) (v := (some (.int 1))) (h1 := h) rfl rfl rfl (sp_J1_canEncode_9a6ad_121 d _) ?_
  refine am_g 6 16 [some (.ref 9), some (.int 121), some (.int 0), some (.int 5)] [.int 5] h rfl ?_
  refine am_g 6 24 [some (.ref 9), some (.int 121), some (.int 0), some (.int 5)] [.int 5, .int 0] h rfl ?_
  refine am_g 5 33 [some (.ref 9), some (.int 121), some (.int 0), some (.int 5)] [.int 5, .int 0, .int 121, .ref 9] h rfl ?_
  refine am_call (y := 222) (vs := [.ref 9, .int 121, .int 0, .int 5]) (rest := []) (v := (some (.int 4))) (h1 := h) rfl rfl rfl (sp_J1_indexOfChar_4cfef_3_121 d _) ?_
  exact am_ret2 rfl rfl rfl rfl rfl
theorem sp_J0_indexOf_7cf53_3_121 (d : Nat) (h : am_H) : am_X xs LL (d + 3) 217 [.ref 3, .int 121, .int 0] h (some (.int 4)) h := by
  refine am_XR (d := d + 2) (C := cd_J0_indexOf_7cf53) (L := [some (.ref 3), some (.int 121), some (.int 0)]) rfl rfl rfl rfl ?_
  refine am_g 1 1 [some (.ref 3), some (.int 121), some (.int 0)] [.ref 3] h rfl ?_
  refine am_call (y := 216) (vs := [.ref 3]) (rest := []) (v := (some (.int 1))) (h1 := h) rfl rfl rfl (sp_J0_isLatin1_aae02_3 (d + 1) _) ?_
  refine am_g 6 14 [some (.ref 3), some (.int 121), some (.int 0)] [.ref 3, .int 0, .int 121, .ref 9] h rfl ?_
  refine am_call (y := 212) (vs := [.ref 3]) (rest := [.int 0, .int 121, .ref 9]) (v := (some (.int 5))) (h1 := h) rfl rfl rfl (sp_J0_length_8abf5_3 d _) ?_
  refine am_call (y := 220) (vs := [.ref 9, .int 121, .int 0, .int 5]) (rest := []) (v := (some (.int 4))) (h1 := h) rfl rfl rfl (sp_J1_indexOf_4cfef_3_121 d _) ?_
  refine am_g 1 36 [some (.ref 3), some (.int 121), some (.int 0)] [.int 4] h rfl ?_
  exact am_ret2 rfl rfl rfl rfl rfl
theorem sp_J0_indexOf_0f7a4_3_121 (d : Nat) (h : am_H) : am_X xs LL (d + 4) 214 [.ref 3, .int 121] h (some (.int 4)) h := by
  refine am_XR (d := d + 3) (C := cd_J0_indexOf_0f7a4) (L := [some (.ref 3), some (.int 121)]) rfl rfl rfl rfl ?_
  refine am_g 3 3 [some (.ref 3), some (.int 121)] [.int 0, .int 121, .ref 3] h rfl ?_
  refine am_call (y := 217) (vs := [.ref 3, .int 121, .int 0]) (rest := []) (v := (some (.int 4))) (h1 := h) rfl rfl rfl (sp_J0_indexOf_7cf53_3_121 d _) ?_
  exact am_ret2 rfl rfl rfl rfl rfl
theorem sp_J1_indexOfChar_4cfef_3_55 (d : Nat) (h : am_H) : am_X xs LL (d + 1) 222 [.ref 9, .int 55, .int 0, .int 5] h (some (.int (-1))) h := by
  refine am_XR (d := d + 0) (C := cd_J1_indexOfChar_4cfef) (L := [some (.ref 9), some (.int 55), some (.int 0), some (.int 5), none, none]) rfl rfl rfl rfl ?_
  refine am_g 6 9 [some (.ref 9), some (.int 55), some (.int 0), some (.int 5), some (.int 55), some (.int 0)] [.int 0] h rfl ?_
  refine am_g 6 19 [some (.ref 9), some (.int 55), some (.int 0), some (.int 5), some (.int 55), some (.int 0)] [.int 55, .int 120] h rfl ?_
  refine am_g 6 13 [some (.ref 9), some (.int 55), some (.int 0), some (.int 5), some (.int 55), some (.int 1)] [] h rfl ?_
  refine am_g 6 28 [some (.ref 9), some (.int 55), some (.int 0), some (.int 5), some (.int 55), some (.int 2)] [] h rfl ?_
  refine am_g 6 16 [some (.ref 9), some (.int 55), some (.int 0), some (.int 5), some (.int 55), some (.int 2)] [.int 2, .ref 9] h rfl ?_
  refine am_g 6 9 [some (.ref 9), some (.int 55), some (.int 0), some (.int 5), some (.int 55), some (.int 3)] [.int 3] h rfl ?_
  refine am_g 6 19 [some (.ref 9), some (.int 55), some (.int 0), some (.int 5), some (.int 55), some (.int 3)] [.int 55, .int 61] h rfl ?_
  refine am_g 6 13 [some (.ref 9), some (.int 55), some (.int 0), some (.int 5), some (.int 55), some (.int 4)] [] h rfl ?_
  refine am_g 6 28 [some (.ref 9), some (.int 55), some (.int 0), some (.int 5), some (.int 55), some (.int 5)] [] h rfl ?_
  refine am_g 5 32 [some (.ref 9), some (.int 55), some (.int 0), some (.int 5), some (.int 55), some (.int 5)] [.int (-1)] h rfl ?_
  exact am_ret2 rfl rfl rfl rfl rfl
theorem sp_J1_indexOf_4cfef_3_55 (d : Nat) (h : am_H) : am_X xs LL (d + 2) 220 [.ref 9, .int 55, .int 0, .int 5] h (some (.int (-1))) h := by
  refine am_XR (d := d + 1) (C := cd_J1_indexOf_4cfef) (L := [some (.ref 9), some (.int 55), some (.int 0), some (.int 5)]) rfl rfl rfl rfl ?_
  refine am_g 1 1 [some (.ref 9), some (.int 55), some (.int 0), some (.int 5)] [.int 55] h rfl ?_
  refine am_call (y := 221) (vs := [.int 55]) (rest := []) (v := (some (.int 1))) (h1 := h) rfl rfl rfl (sp_J1_canEncode_9a6ad_55 d _) ?_
  refine am_g 6 16 [some (.ref 9), some (.int 55), some (.int 0), some (.int 5)] [.int 5] h rfl ?_
  refine am_g 6 24 [some (.ref 9), some (.int 55), some (.int 0), some (.int 5)] [.int 5, .int 0] h rfl ?_
  refine am_g 5 33 [some (.ref 9), some (.int 55), some (.int 0), some (.int 5)] [.int 5, .int 0, .int 55, .ref 9] h rfl ?_
  refine am_call (y := 222) (vs := [.ref 9, .int 55, .int 0, .int 5]) (rest := []) (v := (some (.int (-1)))) (h1 := h) rfl rfl rfl (sp_J1_indexOfChar_4cfef_3_55 d _) ?_
  exact am_ret2 rfl rfl rfl rfl rfl
theorem sp_J0_indexOf_7cf53_3_55 (d : Nat) (h : am_H) : am_X xs LL (d + 3) 217 [.ref 3, .int 55, .int 0] h (some (.int (-1))) h := by
  refine am_XR (d := d + 2) (C := cd_J0_indexOf_7cf53) (L := [some (.ref 3), some (.int 55), some (.int 0)]) rfl rfl rfl rfl ?_
  refine am_g 1 1 [some (.ref 3), some (.int 55), some (.int 0)] [.ref 3] h rfl ?_
  refine am_call (y := 216) (vs := [.ref 3]) (rest := []) (v := (some (.int 1))) (h1 := h) rfl rfl rfl (sp_J0_isLatin1_aae02_3 (d + 1) _) ?_
  refine am_g 6 14 [some (.ref 3), some (.int 55), some (.int 0)] [.ref 3, .int 0, .int 55, .ref 9] h rfl ?_
  refine am_call (y := 212) (vs := [.ref 3]) (rest := [.int 0, .int 55, .ref 9]) (v := (some (.int 5))) (h1 := h) rfl rfl rfl (sp_J0_length_8abf5_3 d _) ?_
  refine am_call (y := 220) (vs := [.ref 9, .int 55, .int 0, .int 5]) (rest := []) (v := (some (.int (-1)))) (h1 := h) rfl rfl rfl (sp_J1_indexOf_4cfef_3_55 d _) ?_
  refine am_g 1 36 [some (.ref 3), some (.int 55), some (.int 0)] [.int (-1)] h rfl ?_
  exact am_ret2 rfl rfl rfl rfl rfl
theorem sp_J0_indexOf_0f7a4_3_55 (d : Nat) (h : am_H) : am_X xs LL (d + 4) 214 [.ref 3, .int 55] h (some (.int (-1))) h := by
  refine am_XR (d := d + 3) (C := cd_J0_indexOf_0f7a4) (L := [some (.ref 3), some (.int 55)]) rfl rfl rfl rfl ?_
  refine am_g 3 3 [some (.ref 3), some (.int 55)] [.int 0, .int 55, .ref 3] h rfl ?_
  refine am_call (y := 217) (vs := [.ref 3, .int 55, .int 0]) (rest := []) (v := (some (.int (-1)))) (h1 := h) rfl rfl rfl (sp_J0_indexOf_7cf53_3_55 d _) ?_
  exact am_ret2 rfl rfl rfl rfl rfl
theorem sp_J1_indexOfChar_4cfef_3_50 (d : Nat) (h : am_H) : am_X xs LL (d + 1) 222 [.ref 9, .int 50, .int 0, .int 5] h (some (.int 2)) h := by
  refine am_XR (d := d + 0) (C := cd_J1_indexOfChar_4cfef) (L := [some (.ref 9), some (.int 50), some (.int 0), some (.int 5), none, none]) rfl rfl rfl rfl ?_
  refine am_g 6 9 [some (.ref 9), some (.int 50), some (.int 0), some (.int 5), some (.int 50), some (.int 0)] [.int 0] h rfl ?_
  refine am_g 6 19 [some (.ref 9), some (.int 50), some (.int 0), some (.int 5), some (.int 50), some (.int 0)] [.int 50, .int 120] h rfl ?_
  refine am_g 6 13 [some (.ref 9), some (.int 50), some (.int 0), some (.int 5), some (.int 50), some (.int 1)] [] h rfl ?_
  refine am_g 6 28 [some (.ref 9), some (.int 50), some (.int 0), some (.int 5), some (.int 50), some (.int 2)] [] h rfl ?_
  refine am_g 6 16 [some (.ref 9), some (.int 50), some (.int 0), some (.int 5), some (.int 50), some (.int 2)] [.int 2, .ref 9] h rfl ?_
  refine am_g 4 24 [some (.ref 9), some (.int 50), some (.int 0), some (.int 5), some (.int 50), some (.int 2)] [.int 2] h rfl ?_
  exact am_ret2 rfl rfl rfl rfl rfl
theorem sp_J1_indexOf_4cfef_3_50 (d : Nat) (h : am_H) : am_X xs LL (d + 2) 220 [.ref 9, .int 50, .int 0, .int 5] h (some (.int 2)) h := by
  refine am_XR (d := d + 1) (C := cd_J1_indexOf_4cfef) (L := [some (.ref 9), some (.int 50), some (.int 0), some (.int 5)]) rfl rfl rfl rfl ?_
  refine am_g 1 1 [some (.ref 9), some (.int 50), some (.int 0), some (.int 5)] [.int 50] h rfl ?_
  refine am_call (y := 221) (vs := [.int 50]) (rest := []) (v := (some (.int 1))) (h1 := h) rfl rfl rfl (sp_J1_canEncode_9a6ad_50 d _) ?_
  refine am_g 6 16 [some (.ref 9), some (.int 50), some (.int 0), some (.int 5)] [.int 5] h rfl ?_
  refine am_g 6 24 [some (.ref 9), some (.int 50), some (.int 0), some (.int 5)] [.int 5, .int 0] h rfl ?_
  refine am_g 5 33 [some (.ref 9), some (.int 50), some (.int 0), some (.int 5)] [.int 5, .int 0, .int 50, .ref 9] h rfl ?_
  refine am_call (y := 222) (vs := [.ref 9, .int 50, .int 0, .int 5]) (rest := []) (v := (some (.int 2))) (h1 := h) rfl rfl rfl (sp_J1_indexOfChar_4cfef_3_50 d _) ?_
  exact am_ret2 rfl rfl rfl rfl rfl
theorem sp_J0_indexOf_7cf53_3_50 (d : Nat) (h : am_H) : am_X xs LL (d + 3) 217 [.ref 3, .int 50, .int 0] h (some (.int 2)) h := by
  refine am_XR (d := d + 2) (C := cd_J0_indexOf_7cf53) (L := [some (.ref 3), some (.int 50), some (.int 0)]) rfl rfl rfl rfl ?_
  refine am_g 1 1 [some (.ref 3), some (.int 50), some (.int 0)] [.ref 3] h rfl ?_
  refine am_call (y := 216) (vs := [.ref 3]) (rest := []) (v := (some (.int 1))) (h1 := h) rfl rfl rfl (sp_J0_isLatin1_aae02_3 (d + 1) _) ?_
  refine am_g 6 14 [some (.ref 3), some (.int 50), some (.int 0)] [.ref 3, .int 0, .int 50, .ref 9] h rfl ?_
  refine am_call (y := 212) (vs := [.ref 3]) (rest := [.int 0, .int 50, .ref 9]) (v := (some (.int 5))) (h1 := h) rfl rfl rfl (sp_J0_length_8abf5_3 d _) ?_
  refine am_call (y := 220) (vs := [.ref 9, .int 50, .int 0, .int 5]) (rest := []) (v := (some (.int 2))) (h1 := h) rfl rfl rfl (sp_J1_indexOf_4cfef_3_50 d _) ?_
  refine am_g 1 36 [some (.ref 3), some (.int 50), some (.int 0)] [.int 2] h rfl ?_
  exact am_ret2 rfl rfl rfl rfl rfl
theorem sp_J0_indexOf_0f7a4_3_50 (d : Nat) (h : am_H) : am_X xs LL (d + 4) 214 [.ref 3, .int 50] h (some (.int 2)) h := by
  refine am_XR (d := d + 3) (C := cd_J0_indexOf_0f7a4) (L := [some (.ref 3), some (.int 50)]) rfl rfl rfl rfl ?_
  refine am_g 3 3 [some (.ref 3), some (.int 50)] [.int 0, .int 50, .ref 3] h rfl ?_
  refine am_call (y := 217) (vs := [.ref 3, .int 50, .int 0]) (rest := []) (v := (some (.int 2))) (h1 := h) rfl rfl rfl (sp_J0_indexOf_7cf53_3_50 d _) ?_
  exact am_ret2 rfl rfl rfl rfl rfl
theorem sp_J1_indexOfChar_4cfef_4_120 (d : Nat) (h : am_H) : am_X xs LL (d + 1) 222 [.ref 10, .int 120, .int 0, .int 8] h (some (.int 0)) h := by
  refine am_XR (d := d + 0) (C := cd_J1_indexOfChar_4cfef) (L := [some (.ref 10), some (.int 120), some (.int 0), some (.int 8), none, none]) rfl rfl rfl rfl ?_
  refine am_g 6 9 [some (.ref 10), some (.int 120), some (.int 0), some (.int 8), some (.int 120), some (.int 0)] [.int 0] h rfl ?_
  refine am_g 6 19 [some (.ref 10), some (.int 120), some (.int 0), some (.int 8), some (.int 120), some (.int 0)] [.int 120, .int 120] h rfl ?_
  refine am_g 2 24 [some (.ref 10), some (.int 120), some (.int 0), some (.int 8), some (.int 120), some (.int 0)] [.int 0] h rfl ?_
  exact am_ret2 rfl rfl rfl rfl rfl
theorem sp_J1_indexOf_4cfef_4_120 (d : Nat) (h : am_H) : am_X xs LL (d + 2) 220 [.ref 10, .int 120, .int 0, .int 8] h (some (.int 0)) h := by
  refine am_XR (d := d + 1) (C := cd_J1_indexOf_4cfef) (L := [some (.ref 10), some (.int 120), some (.int 0), some (.int 8)]) rfl rfl rfl rfl ?_
  refine am_g 1 1 [some (.ref 10), some (.int 120), some (.int 0), some (.int 8)] [.int 120] h rfl ?_
  refine am_call (y := 221) (vs := [.int 120]) (rest := []) (v := (some (.int 1))) (h1 := h) rfl rfl rfl (sp_J1_canEncode_9a6ad_120 d _) ?_
  refine am_g 6 16 [some (.ref 10), some (.int 120), some (.int 0), some (.int 8)] [.int 8] h rfl ?_
  refine am_g 6 24 [some (.ref 10), some (.int 120), some (.int 0), some (.int 8)] [.int 8, .int 0] h rfl ?_
  refine am_g 5 33 [some (.ref 10), some (.int 120), some (.int 0), some (.int 8)] [.int 8, .int 0, .int 120, .ref 10] h rfl ?_
  refine am_call (y := 222) (vs := [.ref 10, .int 120, .int 0, .int 8]) (rest := []) (v := (some (.int 0))) (h1 := h) rfl rfl rfl (sp_J1_indexOfChar_4cfef_4_120 d _) ?_
  exact am_ret2 rfl rfl rfl rfl rfl
theorem sp_J0_indexOf_7cf53_4_120 (d : Nat) (h : am_H) : am_X xs LL (d + 3) 217 [.ref 4, .int 120, .int 0] h (some (.int 0)) h := by
  refine am_XR (d := d + 2) (C := cd_J0_indexOf_7cf53) (L := [some (.ref 4), some (.int 120), some (.int 0)]) rfl rfl rfl rfl ?_
  refine am_g 1 1 [some (.ref 4), some (.int 120), some (.int 0)] [.ref 4] h rfl ?_
  refine am_call (y := 216) (vs := [.ref 4]) (rest := []) (v := (some (.int 1))) (h1 := h) rfl rfl rfl (sp_J0_isLatin1_aae02_4 (d + 1) _) ?_
  refine am_g 6 14 [some (.ref 4), some (.int 120), some (.int 0)] [.ref 4, .int 0, .int 120, .ref 10] h rfl ?_
  refine am_call (y := 212) (vs := [.ref 4]) (rest := [.int 0, .int 120, .ref 10]) (v := (some (.int 8))) (h1 := h) rfl rfl rfl (sp_J0_length_8abf5_4 d _) ?_
  refine am_call (y := 220) (vs := [.ref 10, .int 120, .int 0, .int 8]) (rest := []) (v := (some (.int 0))) (h1 := h) rfl rfl rfl (sp_J1_indexOf_4cfef_4_120 d _) ?_
  refine am_g 1 36 [some (.ref 4), some (.int 120), some (.int 0)] [.int 0] h rfl ?_
  exact am_ret2 rfl rfl rfl rfl rfl
theorem sp_J0_indexOf_0f7a4_4_120 (d : Nat) (h : am_H) : am_X xs LL (d + 4) 214 [.ref 4, .int 120] h (some (.int 0)) h := by
  refine am_XR (d := d + 3) (C := cd_J0_indexOf_0f7a4) (L := [some (.ref 4), some (.int 120)]) rfl rfl rfl rfl ?_
  refine am_g 3 3 [some (.ref 4), some (.int 120)] [.int 0, .int 120, .ref 4] h rfl ?_
  refine am_call (y := 217) (vs := [.ref 4, .int 120, .int 0]) (rest := []) (v := (some (.int 0))) (h1 := h) rfl rfl rfl (sp_J0_indexOf_7cf53_4_120 d _) ?_
  exact am_ret2 rfl rfl rfl rfl rfl
theorem sp_J1_indexOfChar_4cfef_4_121 (d : Nat) (h : am_H) : am_X xs LL (d + 1) 222 [.ref 10, .int 121, .int 0, .int 8] h (some (.int 2)) h := by
  refine am_XR (d := d + 0) (C := cd_J1_indexOfChar_4cfef) (L := [some (.ref 10), some (.int 121), some (.int 0), some (.int 8), none, none]) rfl rfl rfl rfl ?_
  refine am_g 6 9 [some (.ref 10), some (.int 121), some (.int 0), some (.int 8), some (.int 121), some (.int 0)] [.int 0] h rfl ?_
  refine am_g 6 19 [some (.ref 10), some (.int 121), some (.int 0), some (.int 8), some (.int 121), some (.int 0)] [.int 121, .int 120] h rfl ?_
  refine am_g 6 13 [some (.ref 10), some (.int 121), some (.int 0), some (.int 8), some (.int 121), some (.int 1)] [] h rfl ?_
  refine am_g 6 28 [some (.ref 10), some (.int 121), some (.int 0), some (.int 8), some (.int 121), some (.int 2)] [] h rfl ?_
  refine am_g 6 16 [some (.ref 10), some (.int 121), some (.int 0), some (.int 8), some (.int 121), some (.int 2)] [.int 2, .ref 10] h rfl ?_
  refine am_g 4 24 [some (.ref 10), some (.int 121), some (.int 0), some (.int 8), some (.int 121), some (.int 2)] [.int 2] h rfl ?_
  exact am_ret2 rfl rfl rfl rfl rfl
theorem sp_J1_indexOf_4cfef_4_121 (d : Nat) (h : am_H) : am_X xs LL (d + 2) 220 [.ref 10, .int 121, .int 0, .int 8] h (some (.int 2)) h := by
  refine am_XR (d := d + 1) (C := cd_J1_indexOf_4cfef) (L := [some (.ref 10), some (.int 121), some (.int 0), some (.int 8)]) rfl rfl rfl rfl ?_
  refine am_g 1 1 [some (.ref 10), some (.int 121), some (.int 0), some (.int 8)] [.int 121] h rfl ?_
  refine am_call (y := 221) (vs := [.int 121]) (rest := []) (v := (some (.int 1))) (h1 := h) rfl rfl rfl (sp_J1_canEncode_9a6ad_121 d _) ?_
  refine am_g 6 16 [some (.ref 10), some (.int 121), some (.int 0), some (.int 8)] [.int 8] h rfl ?_
  refine am_g 6 24 [some (.ref 10), some (.int 121), some (.int 0), some (.int 8)] [.int 8, .int 0] h rfl ?_
  refine am_g 5 33 [some (.ref 10), some (.int 121), some (.int 0), some (.int 8)] [.int 8, .int 0, .int 121, .ref 10] h rfl ?_
  refine am_call (y := 222) (vs := [.ref 10, .int 121, .int 0, .int 8]) (rest := []) (v := (some (.int 2))) (h1 := h) rfl rfl rfl (sp_J1_indexOfChar_4cfef_4_121 d _) ?_
  exact am_ret2 rfl rfl rfl rfl rfl
theorem sp_J0_indexOf_7cf53_4_121 (d : Nat) (h : am_H) : am_X xs LL (d + 3) 217 [.ref 4, .int 121, .int 0] h (some (.int 2)) h := by
  refine am_XR (d := d + 2) (C := cd_J0_indexOf_7cf53) (L := [some (.ref 4), some (.int 121), some (.int 0)]) rfl rfl rfl rfl ?_
  refine am_g 1 1 [some (.ref 4), some (.int 121), some (.int 0)] [.ref 4] h rfl ?_
  refine am_call (y := 216) (vs := [.ref 4]) (rest := []) (v := (some (.int 1))) (h1 := h) rfl rfl rfl (sp_J0_isLatin1_aae02_4 (d + 1) _) ?_
  refine am_g 6 14 [some (.ref 4), some (.int 121), some (.int 0)] [.ref 4, .int 0, .int 121, .ref 10] h rfl ?_
  refine am_call (y := 212) (vs := [.ref 4]) (rest := [.int 0, .int 121, .ref 10]) (v := (some (.int 8))) (h1 := h) rfl rfl rfl (sp_J0_length_8abf5_4 d _) ?_
  refine am_call (y := 220) (vs := [.ref 10, .int 121, .int 0, .int 8]) (rest := []) (v := (some (.int 2))) (h1 := h) rfl rfl rfl (sp_J1_indexOf_4cfef_4_121 d _) ?_
  refine am_g 1 36 [some (.ref 4), some (.int 121), some (.int 0)] [.int 2] h rfl ?_
  exact am_ret2 rfl rfl rfl rfl rfl
theorem sp_J0_indexOf_0f7a4_4_121 (d : Nat) (h : am_H) : am_X xs LL (d + 4) 214 [.ref 4, .int 121] h (some (.int 2)) h := by
  refine am_XR (d := d + 3) (C := cd_J0_indexOf_0f7a4) (L := [some (.ref 4), some (.int 121)]) rfl rfl rfl rfl ?_
  refine am_g 3 3 [some (.ref 4), some (.int 121)] [.int 0, .int 121, .ref 4] h rfl ?_
  refine am_call (y := 217) (vs := [.ref 4, .int 121, .int 0]) (rest := []) (v := (some (.int 2))) (h1 := h) rfl rfl rfl (sp_J0_indexOf_7cf53_4_121 d _) ?_
  exact am_ret2 rfl rfl rfl rfl rfl
theorem sp_J1_indexOfChar_4cfef_4_122 (d : Nat) (h : am_H) : am_X xs LL (d + 1) 222 [.ref 10, .int 122, .int 0, .int 8] h (some (.int 6)) h := by
  refine am_XR (d := d + 0) (C := cd_J1_indexOfChar_4cfef) (L := [some (.ref 10), some (.int 122), some (.int 0), some (.int 8), none, none]) rfl rfl rfl rfl ?_
  refine am_g 6 9 [some (.ref 10), some (.int 122), some (.int 0), some (.int 8), some (.int 122), some (.int 0)] [.int 0] h rfl ?_
  refine am_g 6 19 [some (.ref 10), some (.int 122), some (.int 0), some (.int 8), some (.int 122), some (.int 0)] [.int 122, .int 120] h rfl ?_
  refine am_g 6 13 [some (.ref 10), some (.int 122), some (.int 0), some (.int 8), some (.int 122), some (.int 1)] [] h rfl ?_
  refine am_g 6 28 [some (.ref 10), some (.int 122), some (.int 0), some (.int 8), some (.int 122), some (.int 2)] [] h rfl ?_
  refine am_g 6 16 [some (.ref 10), some (.int 122), some (.int 0), some (.int 8), some (.int 122), some (.int 2)] [.int 2, .ref 10] h rfl ?_
  refine am_g 6 9 [some (.ref 10), some (.int 122), some (.int 0), some (.int 8), some (.int 122), some (.int 3)] [.int 3] h rfl ?_
  refine am_g 6 19 [some (.ref 10), some (.int 122), some (.int 0), some (.int 8), some (.int 122), some (.int 3)] [.int 122, .int 58] h rfl ?_
  refine am_g 6 13 [some (.ref 10), some (.int 122), some (.int 0), some (.int 8), some (.int 122), some (.int 4)] [] h rfl ?_
  refine am_g 6 28 [some (.ref 10), some (.int 122), some (.int 0), some (.int 8), some (.int 122), some (.int 5)] [] h rfl ?_
  refine am_g 6 16 [some (.ref 10), some (.int 122), some (.int 0), some (.int 8), some (.int 122), some (.int 5)] [.int 5, .ref 10] h rfl ?_
  refine am_g 6 9 [some (.ref 10), some (.int 122), some (.int 0), some (.int 8), some (.int 122), some (.int 6)] [.int 6] h rfl ?_
  refine am_g 6 19 [some (.ref 10), some (.int 122), some (.int 0), some (.int 8), some (.int 122), some (.int 6)] [.int 122, .int 122] h rfl ?_
  refine am_g 2 24 [some (.ref 10), some (.int 122), some (.int 0), some (.int 8), some (.int 122), some (.int 6)] [.int 6] h rfl ?_
  exact am_ret2 rfl rfl rfl rfl rfl
theorem sp_J1_indexOf_4cfef_4_122 (d : Nat) (h : am_H) : am_X xs LL (d + 2) 220 [.ref 10, .int 122, .int 0, .int 8] h (some (.int 6)) h := by
  refine am_XR (d := d + 1) (C := cd_J1_indexOf_4cfef) (L := [some (.ref 10), some (.int 122), some (.int 0), some (.int 8)]) rfl rfl rfl rfl ?_
  refine am_g 1 1 [some (.ref 10), some (.int 122), some (.int 0), some (.int 8)] [.int 122] h rfl ?_
  refine am_call (y := 221) (vs := [.int 122]) (rest := []) (v := (some (.int 1))) (h1 := h) rfl rfl rfl (sp_J1_canEncode_9a6ad_122 d _) ?_
  refine am_g 6 16 [some (.ref 10), some (.int 122), some (.int 0), some (.int 8)] [.int 8] h rfl ?_
  refine am_g 6 24 [some (.ref 10), some (.int 122), some (.int 0), some (.int 8)] [.int 8, .int 0] h rfl ?_
  refine am_g 5 33 [some (.ref 10), some (.int 122), some (.int 0), some (.int 8)] [.int 8, .int 0, .int 122, .ref 10] h rfl ?_
  refine am_call (y := 222) (vs := [.ref 10, .int 122, .int 0, .int 8]) (rest := []) (v := (some (.int 6))) (h1 := h) rfl rfl rfl (sp_J1_indexOfChar_4cfef_4_122 d _) ?_
  exact am_ret2 rfl rfl rfl rfl rfl
theorem sp_J0_indexOf_7cf53_4_122 (d : Nat) (h : am_H) : am_X xs LL (d + 3) 217 [.ref 4, .int 122, .int 0] h (some (.int 6)) h := by
  refine am_XR (d := d + 2) (C := cd_J0_indexOf_7cf53) (L := [some (.ref 4), some (.int 122), some (.int 0)]) rfl rfl rfl rfl ?_
  refine am_g 1 1 [some (.ref 4), some (.int 122), some (.int 0)] [.ref 4] h rfl ?_
  refine am_call (y := 216) (vs := [.ref 4]) (rest := []) (v := (some (.int 1))) (h1 := h) rfl rfl rfl (sp_J0_isLatin1_aae02_4 (d + 1) _) ?_
  refine am_g 6 14 [some (.ref 4), some (.int 122), some (.int 0)] [.ref 4, .int 0, .int 122, .ref 10] h rfl ?_
  refine am_call (y := 212) (vs := [.ref 4]) (rest := [.int 0, .int 122, .ref 10]) (v := (some (.int 8))) (h1 := h) rfl rfl rfl (sp_J0_length_8abf5_4 d _) ?_
  refine am_call (y := 220) (vs := [.ref 10, .int 122, .int 0, .int 8]) (rest := []) (v := (some (.int 6))) (h1 := h) rfl rfl rfl (sp_J1_indexOf_4cfef_4_122 d _) ?_
  refine am_g 1 36 [some (.ref 4), some (.int 122), some (.int 0)] [.int 6] h rfl ?_
  exact am_ret2 rfl rfl rfl rfl rfl
theorem sp_J0_indexOf_0f7a4_4_122 (d : Nat) (h : am_H) : am_X xs LL (d + 4) 214 [.ref 4, .int 122] h (some (.int 6)) h := by
  refine am_XR (d := d + 3) (C := cd_J0_indexOf_0f7a4) (L := [some (.ref 4), some (.int 122)]) rfl rfl rfl rfl ?_
  refine am_g 3 3 [some (.ref 4), some (.int 122)] [.int 0, .int 122, .ref 4] h rfl ?_
  refine am_call (y := 217) (vs := [.ref 4, .int 122, .int 0]) (rest := []) (v := (some (.int 6))) (h1 := h) rfl rfl rfl (sp_J0_indexOf_7cf53_4_122 d _) ?_
  exact am_ret2 rfl rfl rfl rfl rfl
theorem sp_J1_indexOfChar_4cfef_4_55 (d : Nat) (h : am_H) : am_X xs LL (d + 1) 222 [.ref 10, .int 55, .int 0, .int 8] h (some (.int (-1))) h := by
  refine am_XR (d := d + 0) (C := cd_J1_indexOfChar_4cfef) (L := [some (.ref 10), some (.int 55), some (.int 0), some (.int 8), none, none]) rfl rfl rfl rfl ?_
  refine am_g 6 9 [some (.ref 10), some (.int 55), some (.int 0), some (.int 8), some (.int 55), some (.int 0)] [.int 0] h rfl ?_
  refine am_g 6 19 [some (.ref 10), some (.int 55), some (.int 0), some (.int 8), some (.int 55), some (.int 0)] [.int 55, .int 120] h rfl ?_
  refine am_g 6 13 [some (.ref 10), some (.int 55), some (.int 0), some (.int 8), some (.int 55), some (.int 1)] [] h rfl ?_
  refine am_g 6 28 [some (.ref 10), some (.int 55), some (.int 0), some (.int 8), some (.int 55), some (.int 2)] [] h rfl ?_
  refine am_g 6 16 [some (.ref 10), some (.int 55), some (.int 0), some (.int 8), some (.int 55), some (.int 2)] [.int 2, .ref 10] h rfl ?_
  refine am_g 6 9 [some (.ref 10), some (.int 55), some (.int 0), some (.int 8), some (.int 55), some (.int 3)] [.int 3] h rfl ?_
  refine am_g 6 19 [some (.ref 10), some (.int 55), some (.int 0), some (.int 8), some (.int 55), some (.int 3)] [.int 55, .int 58] h rfl ?_
  refine am_g 6 13 [some (.ref 10), some (.int 55), some (.int 0), some (.int 8), some (.int 55), some (.int 4)] [] h rfl ?_
  refine am_g 6 28 [some (.ref 10), some (.int 55), some (.int 0), some (.int 8), some (.int 55), some (.int 5)] [] h rfl ?_
  refine am_g 6 16 [some (.ref 10), some (.int 55), some (.int 0), some (.int 8), some (.int 55), some (.int 5)] [.int 5, .ref 10] h rfl ?_
  refine am_g 6 9 [some (.ref 10), some (.int 55), some (.int 0), some (.int 8), some (.int 55), some (.int 6)] [.int 6] h rfl ?_
  refine am_g 6 19 [some (.ref 10), some (.int 55), some (.int 0), some (.int 8), some (.int 55), some (.int 6)] [.int 55, .int 122] h rfl ?_
  refine am_g 6 13 [some (.ref 10), some (.int 55), some (.int 0), some (.int 8), some (.int 55), some (.int 7)] [] h rfl ?_
  refine am_g 6 28 [some (.ref 10), some (.int 55), some (.int 0), some (.int 8), some (.int 55), some (.int 8)] [] h rfl ?_
  refine am_g 5 32 [some (.ref 10), some (.int 55), some (.int 0), some (.int 8), some (.int 55), some (.int 8)] [.int (-1)] h rfl ?_
  exact am_ret2 rfl rfl rfl rfl rfl
theorem sp_J1_indexOf_4cfef_4_55 (d : Nat) (h : am_H) : am_X xs LL (d + 2) 220 [.ref 10, .int 55, .int 0, .int 8] h (some (.int (-1))) h := by
  refine am_XR (d := d + 1) (C := cd_J1_indexOf_4cfef) (L := [some (.ref 10), some (.int 55), some (.int 0), some (.int 8)]) rfl rfl rfl rfl ?_
  refine am_g 1 1 [some (.ref 10), some (.int 55), some (.int 0), some (.int 8)] [.int 55] h rfl ?_
  refine am_call (y := 221) (vs := [.int 55]) (rest := []) (v := (some (.int 1))) (h1 := h) rfl rfl rfl (sp_J1_canEncode_9a6ad_55 d _) ?_
  refine am_g 6 16 [some (.ref 10), some (.int 55), some (.int 0), some (.int 8)] [.int 8] h rfl ?_
  refine am_g 6 24 [some (.ref 10), some (.int 55), some (.int 0), some (.int 8)] [.int 8, .int 0] h rfl ?_
  refine am_g 5 33 [some (.ref 10), some (.int 55), some (.int 0), some (.int 8)] [.int 8, .int 0, .int 55, .ref 10] h rfl ?_
  refine am_call (y := 222) (vs := [.ref 10, .int 55, .int 0, .int 8]) (rest := []) (v := (some (.int (-1)))) (h1 := h) rfl rfl rfl (sp_J1_indexOfChar_4cfef_4_55 d _) ?_
  exact am_ret2 rfl rfl rfl rfl rfl
theorem sp_J0_indexOf_7cf53_4_55 (d : Nat) (h : am_H) : am_X xs LL (d + 3) 217 [.ref 4, .int 55, .int 0] h (some (.int (-1))) h := by
  refine am_XR (d := d + 2) (C := cd_J0_indexOf_7cf53) (L := [some (.ref 4), some (.int 55), some (.int 0)]) rfl rfl rfl rfl ?_
  refine am_g 1 1 [some (.ref 4), some (.int 55), some (.int 0)] [.ref 4] h rfl ?_
  refine am_call (y := 216) (vs := [.ref 4]) (rest := []) (v := (some (.int 1))) (h1 := h) rfl rfl rfl (sp_J0_isLatin1_aae02_4 (d + 1) _) ?_
  refine am_g 6 14 [some (.ref 4), some (.int 55), some (.int 0)] [.ref 4, .int 0, .int 55, .ref 10] h rfl ?_
  refine am_call (y := 212) (vs := [.ref 4]) (rest := [.int 0, .int 55, .ref 10]) (v := (some (.int 8))) (h1 := h) rfl rfl rfl (sp_J0_length_8abf5_4 d _) ?_
  refine am_call (y := 220) (vs := [.ref 10, .int 55, .int 0, .int 8]) (rest := []) (v := (some (.int (-1)))) (h1 := h) rfl rfl rfl (sp_J1_indexOf_4cfef_4_55 d _) ?_
  refine am_g 1 36 [some (.ref 4), some (.int 55), some (.int 0)] [.int (-1)] h rfl ?_
  exact am_ret2 rfl rfl rfl rfl rfl
theorem sp_J0_indexOf_0f7a4_4_55 (d : Nat) (h : am_H) : am_X xs LL (d + 4) 214 [.ref 4, .int 55] h (some (.int (-1))) h := by
  refine am_XR (d := d + 3) (C := cd_J0_indexOf_0f7a4) (L := [some (.ref 4), some (.int 55)]) rfl rfl rfl rfl ?_
  refine am_g 3 3 [some (.ref 4), some (.int 55)] [.int 0, .int 55, .ref 4] h rfl ?_
  refine am_call (y := 217) (vs := [.ref 4, .int 55, .int 0]) (rest := []) (v := (some (.int (-1)))) (h1 := h) rfl rfl rfl (sp_J0_indexOf_7cf53_4_55 d _) ?_
  exact am_ret2 rfl rfl rfl rfl rfl
theorem sp_J1_indexOfChar_4cfef_4_50 (d : Nat) (h : am_H) : am_X xs LL (d + 1) 222 [.ref 10, .int 50, .int 0, .int 8] h (some (.int 4)) h := by
  refine am_XR (d := d + 0) (C := cd_J1_indexOfChar_4cfef) (L := [some (.ref 10), some (.int 50), some (.int 0), some (.int 8), none, none]) rfl rfl rfl rfl ?_
  refine am_g 6 9 [some (.ref 10), some (.int 50), some (.int 0), some (.int 8), some (.int 50), some (.int 0)] [.int 0] h rfl ?_
  refine am_g 6 19 [some (.ref 10), some (.int 50), some (.int 0), some (.int 8), some (.int 50), some (.int 0)] [.int 50, .int 120] h rfl ?_
  refine am_g 6 13 [some (.ref 10), some (.int 50), some (.int 0), some (.int 8), some (.int 50), some (.int 1)] [] h rfl ?_
  refine am_g 6 28 [some (.ref 10), some (.int 50), some (.int 0), some (.int 8), some (.int 50), some (.int 2)] [] h rfl ?_
  refine am_g 6 16 [some (.ref 10), some (.int 50), some (.int 0), some (.int 8), some (.int 50), some (.int 2)] [.int 2, .ref 10] h rfl ?_
  refine am_g 6 9 [some (.ref 10), some (.int 50), some (.int 0), some (.int 8), some (.int 50), some (.int 3)] [.int 3] h rfl ?_
  refine am_g 6 19 [some (.ref 10), some (.int 50), some (.int 0), some (.int 8), some (.int 50), some (.int 3)] [.int 50, .int 58] h rfl ?_
  refine am_g 6 13 [some (.ref 10), some (.int 50), some (.int 0), some (.int 8), some (.int 50), some (.int 4)] [] h rfl ?_
  refine am_g 6 24 [some (.ref 10), some (.int 50), some (.int 0), some (.int 8), some (.int 50), some (.int 4)] [.int 4] h rfl ?_
  exact am_ret2 rfl rfl rfl rfl rfl
theorem sp_J1_indexOf_4cfef_4_50 (d : Nat) (h : am_H) : am_X xs LL (d + 2) 220 [.ref 10, .int 50, .int 0, .int 8] h (some (.int 4)) h := by
  refine am_XR (d := d + 1) (C := cd_J1_indexOf_4cfef) (L := [some (.ref 10), some (.int 50), some (.int 0), some (.int 8)]) rfl rfl rfl rfl ?_
  refine am_g 1 1 [some (.ref 10), some (.int 50), some (.int 0), some (.int 8)] [.int 50] h rfl ?_
  refine am_call (y := 221) (vs := [.int 50]) (rest := []) (v := (some (.int 1))) (h1 := h) rfl rfl rfl (sp_J1_canEncode_9a6ad_50 d _) ?_
  refine am_g 6 16 [some (.ref 10), some (.int 50), some (.int 0), some (.int 8)] [.int 8] h rfl ?_
  refine am_g 6 24 [some (.ref 10), some (.int 50), some (.int 0), some (.int 8)] [.int 8, .int 0] h rfl ?_
  refine am_g 5 33 [some (.ref 10), some (.int 50), some (.int 0), some (.int 8)] [.int 8, .int 0, .int 50, .ref 10] h rfl ?_
  refine am_call (y := 222) (vs := [.ref 10, .int 50, .int 0, .int 8]) (rest := []) (v := (some (.int 4))) (h1 := h) rfl rfl rfl (sp_J1_indexOfChar_4cfef_4_50 d _) ?_
  exact am_ret2 rfl rfl rfl rfl rfl
theorem sp_J0_indexOf_7cf53_4_50 (d : Nat) (h : am_H) : am_X xs LL (d + 3) 217 [.ref 4, .int 50, .int 0] h (some (.int 4)) h := by
  refine am_XR (d := d + 2) (C := cd_J0_indexOf_7cf53) (L := [some (.ref 4), some (.int 50), some (.int 0)]) rfl rfl rfl rfl ?_
  refine am_g 1 1 [some (.ref 4), some (.int 50), some (.int 0)] [.ref 4] h rfl ?_
  refine am_call (y := 216) (vs := [.ref 4]) (rest := []) (v := (some (.int 1))) (h1 := h) rfl rfl rfl (sp_J0_isLatin1_aae02_4 (d + 1) _) ?_
  refine am_g 6 14 [some (.ref 4), some (.int 50), some (.int 0)] [.ref 4, .int 0, .int 50, .ref 10] h rfl ?_
  refine am_call (y := 212) (vs := [.ref 4]) (rest := [.int 0, .int 50, .ref 10]) (v := (some (.int 8))) (h1 := h) rfl rfl rfl (sp_J0_length_8abf5_4 d _) ?_
  refine am_call (y := 220) (vs := [.ref 10, .int 50, .int 0, .int 8]) (rest := []) (v := (some (.int 4))) (h1 := h) rfl rfl rfl (sp_J1_indexOf_4cfef_4_50 d _) ?_
  refine am_g 1 36 [some (.ref 4), some (.int 50), some (.int 0)] [.int 4] h rfl ?_
  exact am_ret2 rfl rfl rfl rfl rfl
theorem sp_J0_indexOf_0f7a4_4_50 (d : Nat) (h : am_H) : am_X xs LL (d + 4) 214 [.ref 4, .int 50] h (some (.int 4)) h := by
  refine am_XR (d := d + 3) (C := cd_J0_indexOf_0f7a4) (L := [some (.ref 4), some (.int 50)]) rfl rfl rfl rfl ?_
  refine am_g 3 3 [some (.ref 4), some (.int 50)] [.int 0, .int 50, .ref 4] h rfl ?_
  refine am_call (y := 217) (vs := [.ref 4, .int 50, .int 0]) (rest := []) (v := (some (.int 4))) (h1 := h) rfl rfl rfl (sp_J0_indexOf_7cf53_4_50 d _) ?_
  exact am_ret2 rfl rfl rfl rfl rfl
theorem sp_J1_indexOfChar_4cfef_5_120 (d : Nat) (h : am_H) : am_X xs LL (d + 1) 222 [.ref 11, .int 120, .int 0, .int 4] h (some (.int 0)) h := by
  refine am_XR (d := d + 0) (C := cd_J1_indexOfChar_4cfef) (L := [some (.ref 11), some (.int 120), some (.int 0), some (.int 4), none, none]) rfl rfl rfl rfl ?_
  refine am_g 6 9 [some (.ref 11), some (.int 120), some (.int 0), some (.int 4), some (.int 120), some (.int 0)] [.int 0] h rfl ?_
  refine am_g 6 19 [some (.ref 11), some (.int 120), some (.int 0), some (.int 4), some (.int 120), some (.int 0)] [.int 120, .int 120] h rfl ?_
  refine am_g 2 24 [some (.ref 11), some (.int 120), some (.int 0), some (.int 4), some (.int 120), some (.int 0)] [.int 0] h rfl ?_
  exact am_ret2 rfl rfl rfl rfl rfl
theorem sp_J1_indexOf_4cfef_5_120 (d : Nat) (h : am_H) : am_X xs LL (d + 2) 220 [.ref 11, .int 120, .int 0, .int 4] h (some (.int 0)) h := by
  refine am_XR (d := d + 1) (C := cd_J1_indexOf_4cfef) (L := [some (.ref 11), some (.int 120), some (.int 0), some (.int 4)]) rfl rfl rfl rfl ?_
  refine am_g 1 1 [some (.ref 11), some (.int 120), some (.int 0), some (.int 4)] [.int 120] h rfl ?_
  refine am_call (y := 221) (vs := [.int 120]) (rest := []) (v := (some (.int 1))) (h1 := h) rfl rfl rfl (sp_J1_canEncode_9a6ad_120 d _) ?_
  refine am_g 6 16 [some (.ref 11), some (.int 120), some (.int 0), some (.int 4)] [.int 4] h rfl ?_
  refine am_g 6 24 [some (.ref 11), some (.int 120), some (.int 0), some (.int 4)] [.int 4, .int 0] h rfl ?_
  refine am_g 5 33 [some (.ref 11), some (.int 120), some (.int 0), some (.int 4)] [.int 4, .int 0, .int 120, .ref 11] h rfl ?_
  refine am_call (y := 222) (vs := [.ref 11, .int 120, .int 0, .int 4]) (rest := []) (v := (some (.int 0))) (h1 := h) rfl rfl rfl (sp_J1_indexOfChar_4cfef_5_120 d _) ?_
  exact am_ret2 rfl rfl rfl rfl rfl
theorem sp_J0_indexOf_7cf53_5_120 (d : Nat) (h : am_H) : am_X xs LL (d + 3) 217 [.ref 5, .int 120, .int 0] h (some (.int 0)) h := by
  refine am_XR (d := d + 2) (C := cd_J0_indexOf_7cf53) (L := [some (.ref 5), some (.int 120), some (.int 0)]) rfl rfl rfl rfl ?_
  refine am_g 1 1 [some (.ref 5), some (.int 120), some (.int 0)] [.ref 5] h rfl ?_
  refine am_call (y := 216) (vs := [.ref 5]) (rest := []) (v := (some (.int 1))) (h1 := h) rfl rfl rfl (sp_J0_isLatin1_aae02_5 (d + 1) _) ?_
  refine am_g 6 14 [some (.ref 5), some (.int 120), some (.int 0)] [.ref 5, .int 0, .int 120, .ref 11] h rfl ?_
  refine am_call (y := 212) (vs := [.ref 5]) (rest := [.int 0, .int 120, .ref 11]) (v := (some (.int 4))) (h1 := h) rfl rfl rfl (sp_J0_length_8abf5_5 d _) ?_
  refine am_call (y := 220) (vs := [.ref 11, .int 120, .int 0, .int 4]) (rest := []) (v := (some (.int 0))) (h1 := h) rfl rfl rfl (sp_J1_indexOf_4cfef_5_120 d _) ?_
  refine am_g 1 36 [some (.ref 5), some (.int 120), some (.int 0)] [.int 0] h rfl ?_
  exact am_ret2 rfl rfl rfl rfl rfl
theorem sp_J0_indexOf_0f7a4_5_120 (d : Nat) (h : am_H) : am_X xs LL (d + 4) 214 [.ref 5, .int 120] h (some (.int 0)) h := by
  refine am_XR (d := d + 3) (C := cd_J0_indexOf_0f7a4) (L := [some (.ref 5), some (.int 120)]) rfl rfl rfl rfl ?_
  refine am_g 3 3 [some (.ref 5), some (.int 120)] [.int 0, .int 120, .ref 5] h rfl ?_
  refine am_call (y := 217) (vs := [.ref 5, .int 120, .int 0]) (rest := []) (v := (some (.int 0))) (h1 := h) rfl rfl rfl (sp_J0_indexOf_7cf53_5_120 d _) ?_
  exact am_ret2 rfl rfl rfl rfl rfl
theorem sp_J1_indexOfChar_4cfef_5_121 (d : Nat) (h : am_H) : am_X xs LL (d + 1) 222 [.ref 11, .int 121, .int 0, .int 4] h (some (.int (-1))) h := by
  refine am_XR (d := d + 0) (C := cd_J1_indexOfChar_4cfef) (L := [some (.ref 11), some (.int 121), some (.int 0), some (.int 4), none, none]) rfl rfl rfl rfl ?_
  refine am_g 6 9 [some (.ref 11), some (.int 121), some (.int 0), some (.int 4), some (.int 121), some (.int 0)] [.int 0] h rfl ?_
  refine am_g 6 19 [some (.ref 11), some (.int 121), some (.int 0), some (.int 4), some (.int 121), some (.int 0)] [.int 121, .int 120] h rfl ?_
  refine am_g 6 13 [some (.ref 11), some (.int 121), some (.int 0), some (.int 4), some (.int 121), some (.int 1)] [] h rfl ?_
  refine am_g 6 28 [some (.ref 11), some (.int 121), some (.int 0), some (.int 4), some (.int 121), some (.int 2)] [] h rfl ?_
  refine am_g 6 16 [some (.ref 11), some (.int 121), some (.int 0), some (.int 4), some (.int 121), some (.int 2)] [.int 2, .ref 11] h rfl ?_
  refine am_g 6 9 [some (.ref 11), some (.int 121), some (.int 0), some (.int 4), some (.int 121), some (.int 3)] [.int 3] h rfl ?_
  refine am_g 6 19 [some (.ref 11), some (.int 121), some (.int 0), some (.int 4), some (.int 121), some (.int 3)] [.int 121, .int 55] h rfl ?_
  refine am_g 6 31 [some (.ref 11), some (.int 121), some (.int 0), some (.int 4), some (.int 121), some (.int 4)] [] h rfl ?_
  refine am_g 1 32 [some (.ref 11), some (.int 121), some (.int 0), some (.int 4), some (.int 121), some (.int 4)] [.int (-1)] h rfl ?_
  exact am_ret2 rfl rfl rfl rfl rfl
theorem sp_J1_indexOf_4cfef_5_121 (d : Nat) (h : am_H) : am_X xs LL (d + 2) 220 [.ref 11, .int 121, .int 0, .int 4] h (some (.int (-1))) h := by
  refine am_XR (d := d + 1) (C := cd_J1_indexOf_4cfef) (L := [some (.ref 11), some (.int 121), some (.int 0), some (.int 4)]) rfl rfl rfl rfl ?_
  refine am_g 1 1 [some (.ref 11), some (.int 121), some (.int 0), some (.int 4)] [.int 121] h rfl ?_
  refine am_call (y := 221) (vs := [.int 121]) (rest := []) (v := (some (.int 1))) (h1 := h) rfl rfl rfl (sp_J1_canEncode_9a6ad_121 d _) ?_
  refine am_g 6 16 [some (.ref 11), some (.int 121), some (.int 0), some (.int 4)] [.int 4] h rfl ?_
  refine am_g 6 24 [some (.ref 11), some (.int 121), some (.int 0), some (.int 4)] [.int 4, .int 0] h rfl ?_
  refine am_g 5 33 [some (.ref 11), some (.int 121), some (.int 0), some (.int 4)] [.int 4, .int 0, .int 121, .ref 11] h rfl ?_
  refine am_call (y := 222) (vs := [.ref 11, .int 121, .int 0, .int 4]) (rest := []) (v := (some (.int (-1)))) (h1 := h) rfl rfl rfl (sp_J1_indexOfChar_4cfef_5_121 d _) ?_
  exact am_ret2 rfl rfl rfl rfl rfl
theorem sp_J0_indexOf_7cf53_5_121 (d : Nat) (h : am_H) : am_X xs LL (d + 3) 217 [.ref 5, .int 121, .int 0] h (some (.int (-1))) h := by
  refine am_XR (d := d + 2) (C := cd_J0_indexOf_7cf53) (L := [some (.ref 5), some (.int 121), some (.int 0)]) rfl rfl rfl rfl ?_
  refine am_g 1 1 [some (.ref 5), some (.int 121), some (.int 0)] [.ref 5] h rfl ?_
  refine am_call (y := 216) (vs := [.ref 5]) (rest := []) (v := (some (.int 1))) (h1 := h) rfl rfl rfl (sp_J0_isLatin1_aae02_5 (d + 1) _) ?_
  refine am_g 6 14 [some (.ref 5), some (.int 121), some (.int 0)] [.ref 5, .int 0, .int 121, .ref 11] h rfl ?_
  refine am_call (y := 212) (vs := [.ref 5]) (rest := [.int 0, .int 121, .ref 11]) (v := (some (.int 4))) (h1 := h) rfl rfl rfl (sp_J0_length_8abf5_5 d _) ?_
  refine am_call (y := 220) (vs := [.ref 11, .int 121, .int 0, .int 4]) (rest := []) (v := (some (.int (-1)))) (h1 := h) rfl rfl rfl (sp_J1_indexOf_4cfef_5_121 d _) ?_
  refine am_g 1 36 [some (.ref 5), some (.int 121), some (.int 0)] [.int (-1)] h rfl ?_
  exact am_ret2 rfl rfl rfl rfl rfl
theorem sp_J0_indexOf_0f7a4_5_121 (d : Nat) (h : am_H) : am_X xs LL (d + 4) 214 [.ref 5, .int 121] h (some (.int (-1))) h := by
  refine am_XR (d := d + 3) (C := cd_J0_indexOf_0f7a4) (L := [some (.ref 5), some (.int 121)]) rfl rfl rfl rfl ?_
  refine am_g 3 3 [some (.ref 5), some (.int 121)] [.int 0, .int 121, .ref 5] h rfl ?_
  refine am_call (y := 217) (vs := [.ref 5, .int 121, .int 0]) (rest := []) (v := (some (.int (-1)))) (h1 := h) rfl rfl rfl (sp_J0_indexOf_7cf53_5_121 d _) ?_
  exact am_ret2 rfl rfl rfl rfl rfl
theorem sp_J1_indexOfChar_4cfef_5_55 (d : Nat) (h : am_H) : am_X xs LL (d + 1) 222 [.ref 11, .int 55, .int 0, .int 4] h (some (.int 3)) h := by
  refine am_XR (d := d + 0) (C := cd_J1_indexOfChar_4cfef) (L := [some (.ref 11), some (.int 55), some (.int 0), some (.int 4), none, none]) rfl rfl rfl rfl ?_
  refine am_g 6 9 [some (.ref 11), some (.int 55), some (.int 0), some (.int 4), some (.int 55), some (.int 0)] [.int 0] h rfl ?_
  refine am_g 6 19 [some (.ref 11), some (.int 55), some (.int 0), some (.int 4), some (.int 55), some (.int 0)] [.int 55, .int 120] h rfl ?_
  refine am_g 6 13 [some (.ref 11), some (.int 55), some (.int 0), some (.int 4), some (.int 55), some (.int 1)] [] h rfl ?_
  refine am_g 6 28 [some (.ref 11), some (.int 55), some (.int 0), some (.int 4), some (.int 55), some (.int 2)] [] h rfl ?_
  refine am_g 6 16 [some (.ref 11), some (.int 55), some (.int 0), some (.int 4), some (.int 55), some (.int 2)] [.int 2, .ref 11] h rfl ?_
  refine am_g 6 9 [some (.ref 11), some (.int 55), some (.int 0), some (.int 4), some (.int 55), some (.int 3)] [.int 3] h rfl ?_
  refine am_g 6 19 [some (.ref 11), some (.int 55), some (.int 0), some (.int 4), some (.int 55), some (.int 3)] [.int 55, .int 55] h rfl ?_
  refine am_g 2 24 [some (.ref 11), some (.int 55), some (.int 0), some (.int 4), some (.int 55), some (.int 3)] [.int 3] h rfl ?_
  exact am_ret2 rfl rfl rfl rfl rfl
theorem sp_J1_indexOf_4cfef_5_55 (d : Nat) (h : am_H) : am_X xs LL (d + 2) 220 [.ref 11, .int 55, .int 0, .int 4] h (some (.int 3)) h := by
  refine am_XR (d := d + 1) (C := cd_J1_indexOf_4cfef) (L := [some (.ref 11), some (.int 55), some (.int 0), some (.int 4)]) rfl rfl rfl rfl ?_
  refine am_g 1 1 [some (.ref 11), some (.int 55), some (.int 0), some (.int 4)] [.int 55] h rfl ?_
  refine am_call (y := 221) (vs := [.int 55]) (rest := []) (v := (some (.int 1))) (h1 := h) rfl rfl rfl (sp_J1_canEncode_9a6ad_55 d _) ?_
  refine am_g 6 16 [some (.ref 11), some (.int 55), some (.int 0), some (.int 4)] [.int 4] h rfl ?_
  refine am_g 6 24 [some (.ref 11), some (.int 55), some (.int 0), some (.int 4)] [.int 4, .int 0] h rfl ?_
  refine am_g 5 33 [some (.ref 11), some (.int 55), some (.int 0), some (.int 4)] [.int 4, .int 0, .int 55, .ref 11] h rfl ?_
  refine am_call (y := 222) (vs := [.ref 11, .int 55, .int 0, .int 4]) (rest := []) (v := (some (.int 3))) (h1 := h) rfl rfl rfl (sp_J1_indexOfChar_4cfef_5_55 d _) ?_
  exact am_ret2 rfl rfl rfl rfl rfl
theorem sp_J0_indexOf_7cf53_5_55 (d : Nat) (h : am_H) : am_X xs LL (d + 3) 217 [.ref 5, .int 55, .int 0] h (some (.int 3)) h := by
  refine am_XR (d := d + 2) (C := cd_J0_indexOf_7cf53) (L := [some (.ref 5), some (.int 55), some (.int 0)]) rfl rfl rfl rfl ?_
  refine am_g 1 1 [some (.ref 5), some (.int 55), some (.int 0)] [.ref 5] h rfl ?_
  refine am_call (y := 216) (vs := [.ref 5]) (rest := []) (v := (some (.int 1))) (h1 := h) rfl rfl rfl (sp_J0_isLatin1_aae02_5 (d + 1) _) ?_
  refine am_g 6 14 [some (.ref 5), some (.int 55), some (.int 0)] [.ref 5, .int 0, .int 55, .ref 11] h rfl ?_
  refine am_call (y := 212) (vs := [.ref 5]) (rest := [.int 0, .int 55, .ref 11]) (v := (some (.int 4))) (h1 := h) rfl rfl rfl (sp_J0_length_8abf5_5 d _) ?_
  refine am_call (y := 220) (vs := [.ref 11, .int 55, .int 0, .int 4]) (rest := []) (v := (some (.int 3))) (h1 := h) rfl rfl rfl (sp_J1_indexOf_4cfef_5_55 d _) ?_
  refine am_g 1 36 [some (.ref 5), some (.int 55), some (.int 0)] [.int 3] h rfl ?_
  exact am_ret2 rfl rfl rfl rfl rfl
theorem sp_J0_indexOf_0f7a4_5_55 (d : Nat) (h : am_H) : am_X xs LL (d + 4) 214 [.ref 5, .int 55] h (some (.int 3)) h := by
  refine am_XR (d := d + 3) (C := cd_J0_indexOf_0f7a4) (L := [some (.ref 5), some (.int 55)]) rfl rfl rfl rfl ?_
  refine am_g 3 3 [some (.ref 5), some (.int 55)] [.int 0, .int 55, .ref 5] h rfl ?_
  refine am_call (y := 217) (vs := [.ref 5, .int 55, .int 0]) (rest := []) (v := (some (.int 3))) (h1 := h) rfl rfl rfl (sp_J0_indexOf_7cf53_5_55 d _) ?_
  exact am_ret2 rfl rfl rfl rfl rfl
theorem sp_J1_indexOfChar_4cfef_5_50 (d : Nat) (h : am_H) : am_X xs LL (d + 1) 222 [.ref 11, .int 50, .int 0, .int 4] h (some (.int (-1))) h := by
  refine am_XR (d := d + 0) (C := cd_J1_indexOfChar_4cfef) (L := [some (.ref 11), some (.int 50), some (.int 0), some (.int 4), none, none]) rfl rfl rfl rfl ?_
  refine am_g 6 9 [some (.ref 11), some (.int 50), some (.int 0), some (.int 4), some (.int 50), some (.int 0)] [.int 0] h rfl ?_
  refine am_g 6 19 [some (.ref 11), some (.int 50), some (.int 0), some (.int 4), some (.int 50), some (.int 0)] [.int 50, .int 120] h rfl ?_
  refine am_g 6 13 [some (.ref 11), some (.int 50), some (.int 0), some (.int 4), some (.int 50), some (.int 1)] [] h rfl ?_
  refine am_g 6 28 [some (.ref 11), some (.int 50), some (.int 0), some (.int 4), some (.int 50), some (.int 2)] [] h rfl ?_
  refine am_g 6 16 [some (.ref 11), some (.int 50), some (.int 0), some (.int 4), some (.int 50), some (.int 2)] [.int 2, .ref 11] h rfl ?_
  refine am_g 6 9 [some (.ref 11), some (.int 50), some (.int 0), some (.int 4), some (.int 50), some (.int 3)] [.int 3] h rfl ?_
  refine am_g 6 19 [some (.ref 11), some (.int 50), some (.int 0), some (.int 4), some (.int 50), some (.int 3)] [.int 50, .int 55] h rfl ?_
  refine am_g 6 31 [some (.ref 11), some (.int 50), some (.int 0), some (.int 4), some (.int 50), some (.int 4)] [] h rfl ?_
  refine am_g 1 32 [some (.ref 11), some (.int 50), some (.int 0), some (.int 4), some (.int 50), some (.int 4)] [.int (-1)] h rfl ?_
  exact am_ret2 rfl rfl rfl rfl rfl
theorem sp_J1_indexOf_4cfef_5_50 (d : Nat) (h : am_H) : am_X xs LL (d + 2) 220 [.ref 11, .int 50, .int 0, .int 4] h (some (.int (-1))) h := by
  refine am_XR (d := d + 1) (C := cd_J1_indexOf_4cfef) (L := [some (.ref 11), some (.int 50), some (.int 0), some (.int 4)]) rfl rfl rfl rfl ?_
  refine am_g 1 1 [some (.ref 11), some (.int 50), some (.int 0), some (.int 4)] [.int 50] h rfl ?_
  refine am_call (y := 221) (vs := [.int 50]) (rest := []) (v := (some (.int 1))) (h1 := h) rfl rfl rfl (sp_J1_canEncode_9a6ad_50 d _) ?_
  refine am_g 6 16 [some (.ref 11), some (.int 50), some (.int 0), some (.int 4)] [.int 4] h rfl ?_
  refine am_g 6 24 [some (.ref 11), some (.int 50), some (.int 0), some (.int 4)] [.int 4, .int 0] h rfl ?_
  refine am_g 5 33 [some (.ref 11), some (.int 50), some (.int 0), some (.int 4)] [.int 4, .int 0, .int 50, .ref 11] h rfl ?_
  refine am_call (y := 222) (vs := [.ref 11, .int 50, .int 0, .int 4]) (rest := []) (v := (some (.int (-1)))) (h1 := h) rfl rfl rfl (sp_J1_indexOfChar_4cfef_5_50 d _) ?_
  exact am_ret2 rfl rfl rfl rfl rfl
theorem sp_J0_indexOf_7cf53_5_50 (d : Nat) (h : am_H) : am_X xs LL (d + 3) 217 [.ref 5, .int 50, .int 0] h (some (.int (-1))) h := by
  refine am_XR (d := d + 2) (C := cd_J0_indexOf_7cf53) (L := [some (.ref 5), some (.int 50), some (.int 0)]) rfl rfl rfl rfl ?_
  refine am_g 1 1 [some (.ref 5), some (.int 50), some (.int 0)] [.ref 5] h rfl ?_
  refine am_call (y := 216) (vs := [.ref 5]) (rest := []) (v := (some (.int 1))) (h1 := h) rfl rfl rfl (sp_J0_isLatin1_aae02_5 (d + 1) _) ?_
  refine am_g 6 14 [some (.ref 5), some (.int 50), some (.int 0)] [.ref 5, .int 0, .int 50, .ref 11] h rfl ?_
  refine am_call (y := 212) (vs := [.ref 5]) (rest := [.int 0, .int 50, .ref 11]) (v := (some (.int 4))) (h1 := h) rfl rfl rfl (sp_J0_length_8abf5_5 d _) ?_
  refine am_call (y := 220) (vs := [.ref 11, .int 50, .int 0, .int 4]) (rest := []) (v := (some (.int (-1)))) (h1 := h) rfl rfl rfl (sp_J1_indexOf_4cfef_5_50 d _) ?_
  refine am_g 1 36 [some (.ref 5), some (.int 50), some (.int 0)] [.int (-1)] h rfl ?_
  exact am_ret2 rfl rfl rfl rfl rfl
theorem sp_J0_indexOf_0f7a4_5_50 (d : Nat) (h : am_H) : am_X xs LL (d + 4) 214 [.ref 5, .int 50] h (some (.int (-1))) h := by
  refine am_XR (d := d + 3) (C := cd_J0_indexOf_0f7a4) (L := [some (.ref 5), some (.int 50)]) rfl rfl rfl rfl ?_
  refine am_g 3 3 [some (.ref 5), some (.int 50)] [.int 0, .int 50, .ref 5] h rfl ?_
  refine am_call (y := 217) (vs := [.ref 5, .int 50, .int 0]) (rest := []) (v := (some (.int (-1)))) (h1 := h) rfl rfl rfl (sp_J0_indexOf_7cf53_5_50 d _) ?_
  exact am_ret2 rfl rfl rfl rfl rfl
theorem sp_J1_indexOfChar_4cfef_6_120 (d : Nat) (h : am_H) : am_X xs LL (d + 1) 222 [.ref 12, .int 120, .int 0, .int 3] h (some (.int 0)) h := by
  refine am_XR (d := d + 0) (C := cd_J1_indexOfChar_4cfef) (L := [some (.ref 12), some (.int 120), some (.int 0), some (.int 3), none, none]) rfl rfl rfl rfl ?_
  refine am_g 6 9 [some (.ref 12), some (.int 120), some (.int 0), some (.int 3), some (.int 120), some (.int 0)] [.int 0] h rfl ?_
  refine am_g 6 19 [some (.ref 12), some (.int 120), some (.int 0), some (.int 3), some (.int 120), some (.int 0)] [.int 120, .int 120] h rfl ?_
  refine am_g 2 24 [some (.ref 12), some (.int 120), some (.int 0), some (.int 3), some (.int 120), some (.int 0)] [.int 0] h rfl ?_
  exact am_ret2 rfl rfl rfl rfl rfl
theorem sp_J1_indexOf_4cfef_6_120 (d : Nat) (h : am_H) : am_X xs LL (d + 2) 220 [.ref 12, .int 120, .int 0, .int 3] h (some (.int 0)) h := by
  refine am_XR (d := d + 1) (C := cd_J1_indexOf_4cfef) (L := [some (.ref 12), some (.int 120), some (.int 0), some (.int 3)]) rfl rfl rfl rfl ?_
  refine am_g 1 1 [some (.ref 12), some (.int 120), some (.int 0), some (.int 3)] [.int 120] h rfl ?_
  refine am_call (y := 221) (vs := [.int 120]) (rest := []) (v := (some (.int 1))) (h1 := h) rfl rfl rfl (sp_J1_canEncode_9a6ad_120 d _) ?_
  refine am_g 6 16 [some (.ref 12), some (.int 120), some (.int 0), some (.int 3)] [.int 3] h rfl ?_
  refine am_g 6 24 [some (.ref 12), some (.int 120), some (.int 0), some (.int 3)] [.int 3, .int 0] h rfl ?_
  refine am_g 5 33 [some (.ref 12), some (.int 120), some (.int 0), some (.int 3)] [.int 3, .int 0, .int 120, .ref 12] h rfl ?_
  refine am_call (y := 222) (vs := [.ref 12, .int 120, .int 0, .int 3]) (rest := []) (v := (some (.int 0))) (h1 := h) rfl rfl rfl (sp_J1_indexOfChar_4cfef_6_120 d _) ?_
  exact am_ret2 rfl rfl rfl rfl rfl
theorem sp_J0_indexOf_7cf53_6_120 (d : Nat) (h : am_H) : am_X xs LL (d + 3) 217 [.ref 6, .int 120, .int 0] h (some (.int 0)) h := by
  refine am_XR (d := d + 2) (C := cd_J0_indexOf_7cf53) (L := [some (.ref 6), some (.int 120), some (.int 0)]) rfl rfl rfl rfl ?_
  refine am_g 1 1 [some (.ref 6), some (.int 120), some (.int 0)] [.ref 6] h rfl ?_
  refine am_call (y := 216) (vs := [.ref 6]) (rest := []) (v := (some (.int 1))) (h1 := h) rfl rfl rfl (sp_J0_isLatin1_aae02_6 (d + 1) _) ?_
  refine am_g 6 14 [some (.ref 6), some (.int 120), some (.int 0)] [.ref 6, .int 0, .int 120, .ref 12] h rfl ?_
  refine am_call (y := 212) (vs := [.ref 6]) (rest := [.int 0, .int 120, .ref 12]) (v := (some (.int 3))) (h1 := h) rfl rfl rfl (sp_J0_length_8abf5_6 d _) ?_
  refine am_call (y := 220) (vs := [.ref 12, .int 120, .int 0, .int 3]) (rest := []) (v := (some (.int 0))) (h1 := h) rfl rfl rfl (sp_J1_indexOf_4cfef_6_120 d _) ?_
  refine am_g 1 36 [some (.ref 6), some (.int 120), some (.int 0)] [.int 0] h rfl ?_
  exact am_ret2 rfl rfl rfl rfl rfl
theorem sp_J0_indexOf_0f7a4_6_120 (d : Nat) (h : am_H) : am_X xs LL (d + 4) 214 [.ref 6, .int 120] h (some (.int 0)) h := by
  refine am_XR (d := d + 3) (C := cd_J0_indexOf_0f7a4) (L := [some (.ref 6), some (.int 120)]) rfl rfl rfl rfl ?_
  refine am_g 3 3 [some (.ref 6), some (.int 120)] [.int 0, .int 120, .ref 6] h rfl ?_
  refine am_call (y := 217) (vs := [.ref 6, .int 120, .int 0]) (rest := []) (v := (some (.int 0))) (h1 := h) rfl rfl rfl (sp_J0_indexOf_7cf53_6_120 d _) ?_
  exact am_ret2 rfl rfl rfl rfl rfl
theorem sp_J1_indexOfChar_4cfef_6_121 (d : Nat) (h : am_H) : am_X xs LL (d + 1) 222 [.ref 12, .int 121, .int 0, .int 3] h (some (.int 2)) h := by
  refine am_XR (d := d + 0) (C := cd_J1_indexOfChar_4cfef) (L := [some (.ref 12), some (.int 121), some (.int 0), some (.int 3), none, none]) rfl rfl rfl rfl ?_
  refine am_g 6 9 [some (.ref 12), some (.int 121), some (.int 0), some (.int 3), some (.int 121), some (.int 0)] [.int 0] h rfl ?_
  refine am_g 6 19 [some (.ref 12), some (.int 121), some (.int 0), some (.int 3), some (.int 121), some (.int 0)] [.int 121, .int 120] h rfl ?_
  refine am_g 6 13 [some (.ref 12), some (.int 121), some (.int 0), some (.int 3), some (.int 121), some (.int 1)] [] h rfl ?_
  refine am_g 6 28 [some (.ref 12), some (.int 121), some (.int 0), some (.int 3), some (.int 121), some (.int 2)] [] h rfl ?_
  refine am_g 6 16 [some (.ref 12), some (.int 121), some (.int 0), some (.int 3), some (.int 121), some (.int 2)] [.int 2, .ref 12] h rfl ?_
  refine am_g 4 24 [some (.ref 12), some (.int 121), some (.int 0), some (.int 3), some (.int 121), some (.int 2)] [.int 2] h rfl ?_
  exact am_ret2 rfl rfl rfl rfl rfl
theorem sp_J1_indexOf_4cfef_6_121 (d : Nat) (h : am_H) : am_X xs LL (d + 2) 220 [.ref 12, .int 121, .int 0, .int 3] h (some (.int 2)) h := by
  refine am_XR (d := d + 1) (C := cd_J1_indexOf_4cfef) (L := [some (.ref 12), some (.int 121), some (.int 0), some (.int 3)]) rfl rfl rfl rfl ?_
  refine am_g 1 1 [some (.ref 12), some (.int 121), some (.int 0), some (.int 3)] [.int 121] h rfl ?_
  refine am_call (y := 221) (vs := [.int 121]) (rest := []) (v := (some (.int 1))) (h1 := h) rfl rfl rfl (sp_J1_canEncode_9a6ad_121 d _) ?_
  refine am_g 6 16 [some (.ref 12), some (.int 121), some (.int 0), some (.int 3)] [.int 3] h rfl ?_
  refine am_g 6 24 [some (.ref 12), some (.int 121), some (.int 0), some (.int 3)] [.int 3, .int 0] h rfl ?_
  refine am_g 5 33 [some (.ref 12), some (.int 121), some (.int 0), some (.int 3)] [.int 3, .int 0, .int 121, .ref 12] h rfl ?_
  refine am_call (y := 222) (vs := [.ref 12, .int 121, .int 0, .int 3]) (rest := []) (v := (some (.int 2))) (h1 := h) rfl rfl rfl (sp_J1_indexOfChar_4cfef_6_121 d _) ?_
  exact am_ret2 rfl rfl rfl rfl rfl
theorem sp_J0_indexOf_7cf53_6_121 (d : Nat) (h : am_H) : am_X xs LL (d + 3) 217 [.ref 6, .int 121, .int 0] h (some (.int 2)) h := by
  refine am_XR (d := d + 2) (C := cd_J0_indexOf_7cf53) (L := [some (.ref 6), some (.int 121), some (.int 0)]) rfl rfl rfl rfl ?_
  refine am_g 1 1 [some (.ref 6), some (.int 121), some (.int 0)] [.ref 6] h rfl ?_
  refine am_call (y := 216) (vs := [.ref 6]) (rest := []) (v := (some (.int 1))) (h1 := h) rfl rfl rfl (sp_J0_isLatin1_aae02_6 (d + 1) _) ?_
  refine am_g 6 14 [some (.ref 6), some (.int 121), some (.int 0)] [.ref 6, .int 0, .int 121, .ref 12] h rfl ?_
  refine am_call (y := 212) (vs := [.ref 6]) (rest := [.int 0, .int 121, .ref 12]) (v := (some (.int 3))) (h1 := h) rfl rfl rfl (sp_J0_length_8abf5_6 d _) ?_
  refine am_call (y := 220) (vs := [.ref 12, .int 121, .int 0, .int 3]) (rest := []) (v := (some (.int 2))) (h1 := h) rfl rfl rfl (sp_J1_indexOf_4cfef_6_121 d _) ?_
  refine am_g 1 36 [some (.ref 6), some (.int 121), some (.int 0)] [.int 2] h rfl ?_
  exact am_ret2 rfl rfl rfl rfl rfl
theorem sp_J0_indexOf_0f7a4_6_121 (d : Nat) (h : am_H) : am_X xs LL (d + 4) 214 [.ref 6, .int 121] h (some (.int 2)) h := by
  refine am_XR (d := d + 3) (C := cd_J0_indexOf_0f7a4) (L := [some (.ref 6), some (.int 121)]) rfl rfl rfl rfl ?_
  refine am_g 3 3 [some (.ref 6), some (.int 121)] [.int 0, .int 121, .ref 6] h rfl ?_
  refine am_call (y := 217) (vs := [.ref 6, .int 121, .int 0]) (rest := []) (v := (some (.int 2))) (h1 := h) rfl rfl rfl (sp_J0_indexOf_7cf53_6_121 d _) ?_
  exact am_ret2 rfl rfl rfl rfl rfl
theorem sp_J1_indexOfChar_4cfef_6_55 (d : Nat) (h : am_H) : am_X xs LL (d + 1) 222 [.ref 12, .int 55, .int 0, .int 3] h (some (.int (-1))) h := by
  refine am_XR (d := d + 0) (C := cd_J1_indexOfChar_4cfef) (L := [some (.ref 12), some (.int 55), some (.int 0), some (.int 3), none, none]) rfl rfl rfl rfl ?_
  refine am_g 6 9 [some (.ref 12), some (.int 55), some (.int 0), some (.int 3), some (.int 55), some (.int 0)] [.int 0] h rfl ?_
  refine am_g 6 19 [some (.ref 12), some (.int 55), some (.int 0), some (.int 3), some (.int 55), some (.int 0)] [.int 55, .int 120] h rfl ?_
  refine am_g 6 13 [some (.ref 12), some (.int 55), some (.int 0), some (.int 3), some (.int 55), some (.int 1)] [] h rfl ?_
  refine am_g 6 28 [some (.ref 12), some (.int 55), some (.int 0), some (.int 3), some (.int 55), some (.int 2)] [] h rfl ?_
  refine am_g 6 16 [some (.ref 12), some (.int 55), some (.int 0), some (.int 3), some (.int 55), some (.int 2)] [.int 2, .ref 12] h rfl ?_
  refine am_g 6 9 [some (.ref 12), some (.int 55), some (.int 0), some (.int 3), some (.int 55), some (.int 3)] [.int 3] h rfl ?_
  refine am_g 3 32 [some (.ref 12), some (.int 55), some (.int 0), some (.int 3), some (.int 55), some (.int 3)] [.int (-1)] h rfl ?_
  exact am_ret2 rfl rfl rfl rfl rfl
theorem sp_J1_indexOf_4cfef_6_55 (d : Nat) (h : am_H) : am_X xs LL (d + 2) 220 [.ref 12, .int 55, .int 0, .int 3] h (some (.int (-1))) h := by
  refine am_XR (d := d + 1) (C := cd_J1_indexOf_4cfef) (L := [some (.ref 12), some (.int 55), some (.int 0), some (.int 3)]) rfl rfl rfl rfl ?_
  refine am_g 1 1 [some (.ref 12), some (.int 55), some (.int 0), some (.int 3)] [.int 55] h rfl ?_
  refine am_call (y := 221) (vs := [.int 55]) (rest := []) (v := (some (.int 1))) (h1 := h) rfl rfl rfl (sp_J1_canEncode_9a6ad_55 d _) ?_
  refine am_g 6 16 [some (.ref 12), some (.int 55), some (.int 0), some (.int 3)] [.int 3] h rfl ?_
  refine am_g 6 24 [some (.ref 12), some (.int 55), some (.int 0), some (.int 3)] [.int 3, .int 0] h rfl ?_
  refine am_g 5 33 [some (.ref 12), some (.int 55), some (.int 0), some (.int 3)] [.int 3, .int 0, .int 55, .ref 12] h rfl ?_
  refine am_call (y := 222) (vs := [.ref 12, .int 55, .int 0, .int 3]) (rest := []) (v := (some (.int (-1)))) (h1 := h) rfl rfl rfl (sp_J1_indexOfChar_4cfef_6_55 d _) ?_
  exact am_ret2 rfl rfl rfl rfl rfl
theorem sp_J0_indexOf_7cf53_6_55 (d : Nat) (h : am_H) : am_X xs LL (d + 3) 217 [.ref 6, .int 55, .int 0] h (some (.int (-1))) h := by
  refine am_XR (d := d + 2) (C := cd_J0_indexOf_7cf53) (L := [some (.ref 6), some (.int 55), some (.int 0)]) rfl rfl rfl rfl ?_
  refine am_g 1 1 [some (.ref 6), some (.int 55), some (.int 0)] [.ref 6] h rfl ?_
  refine am_call (y := 216) (vs := [.ref 6]) (rest := []) (v := (some (.int 1))) (h1 := h) rfl rfl rfl (sp_J0_isLatin1_aae02_6 (d + 1) _) ?_
  refine am_g 6 14 [some (.ref 6), some (.int 55), some (.int 0)] [.ref 6, .int 0, .int 55, .ref 12] h rfl ?_
  refine am_call (y := 212) (vs := [.ref 6]) (rest := [.int 0, .int 55, .ref 12]) (v := (some (.int 3))) (h1 := h) rfl rfl rfl (sp_J0_length_8abf5_6 d _) ?_
  refine am_call (y := 220) (vs := [.ref 12, .int 55, .int 0, .int 3]) (rest := []) (v := (some (.int (-1)))) (h1 := h) rfl rfl rfl (sp_J1_indexOf_4cfef_6_55 d _) ?_
  refine am_g 1 36 [some (.ref 6), some (.int 55), some (.int 0)] [.int (-1)] h rfl ?_
  exact am_ret2 rfl rfl rfl rfl rfl
theorem sp_J0_indexOf_0f7a4_6_55 (d : Nat) (h : am_H) : am_X xs LL (d + 4) 214 [.ref 6, .int 55] h (some (.int (-1))) h := by
  refine am_XR (d := d + 3) (C := cd_J0_indexOf_0f7a4) (L := [some (.ref 6), some (.int 55)]) rfl rfl rfl rfl ?_
  refine am_g 3 3 [some (.ref 6), some (.int 55)] [.int 0, .int 55, .ref 6] h rfl ?_
  refine am_call (y := 217) (vs := [.ref 6, .int 55, .int 0]) (rest := []) (v := (some (.int (-1)))) (h1 := h) rfl rfl rfl (sp_J0_indexOf_7cf53_6_55 d _) ?_
  exact am_ret2 rfl rfl rfl rfl rfl
theorem sp_J1_indexOfChar_4cfef_6_50 (d : Nat) (h : am_H) : am_X xs LL (d + 1) 222 [.ref 12, .int 50, .int 0, .int 3] h (some (.int (-1))) h := by
  refine am_XR (d := d + 0) (C := cd_J1_indexOfChar_4cfef) (L := [some (.ref 12), some (.int 50), some (.int 0), some (.int 3), none, none]) rfl rfl rfl rfl ?_
  refine am_g 6 9 [some (.ref 12), some (.int 50), some (.int 0), some (.int 3), some (.int 50), some (.int 0)] [.int 0] h rfl ?_
  refine am_g 6 19 [some (.ref 12), some (.int 50), some (.int 0), some (.int 3), some (.int 50), some (.int 0)] [.int 50, .int 120] h rfl ?_
  refine am_g 6 13 [some (.ref 12), some (.int 50), some (.int 0), some (.int 3), some (.int 50), some (.int 1)] [] h rfl ?_
  refine am_g 6 28 [some (.ref 12), some (.int 50), some (.int 0), some (.int 3), some (.int 50), some (.int 2)] [] h rfl ?_
  refine am_g 6 16 [some (.ref 12), some (.int 50), some (.int 0), some (.int 3), some (.int 50), some (.int 2)] [.int 2, .ref 12] h rfl ?_
  refine am_g 6 9 [some (.ref 12), some (.int 50), some (.int 0), some (.int 3), some (.int 50), some (.int 3)] [.int 3] h rfl ?_
  refine am_g 3 32 [some (.ref 12), some (.int 50), some (.int 0), some (.int 3), some (.int 50), some (.int 3)] [.int (-1)] h rfl ?_
  exact am_ret2 rfl rfl rfl rfl rfl
theorem sp_J1_indexOf_4cfef_6_50 (d : Nat) (h : am_H) : am_X xs LL (d + 2) 220 [.ref 12, .int 50, .int 0, .int 3] h (some (.int (-1))) h := by
  refine am_XR (d := d + 1) (C := cd_J1_indexOf_4cfef) (L := [some (.ref 12), some (.int 50), some (.int 0), some (.int 3)]) rfl rfl rfl rfl ?_
  refine am_g 1 1 [some (.ref 12), some (.int 50), some (.int 0), some (.int 3)] [.int 50] h rfl ?_
  refine am_call (y := 221) (vs := [.int 50]) (rest := []) (v := (some (.int 1))) (h1 := h) rfl rfl rfl (sp_J1_canEncode_9a6ad_50 d _) ?_
  refine am_g 6 16 [some (.ref 12), some (.int 50), some (.int 0), some (.int 3)] [.int 3] h rfl ?_
  refine am_g 6 24 [some (.ref 12), some (.int 50), some (.int 0), some (.int 3)] [.int 3, .int 0] h rfl ?_
  refine am_g 5 33 [some (.ref 12), some (.int 50), some (.int 0), some (.int 3)] [.int 3, .int 0, .int 50, .ref 12] h rfl ?_
  refine am_call (y := 222) (vs := [.ref 12, .int 50, .int 0, .int 3]) (rest := []) (v := (some (.int (-1)))) (h1 := h) rfl rfl rfl (sp_J1_indexOfChar_4cfef_6_50 d _) ?_
  exact am_ret2 rfl rfl rfl rfl rfl
theorem sp_J0_indexOf_7cf53_6_50 (d : Nat) (h : am_H) : am_X xs LL (d + 3) 217 [.ref 6, .int 50, .int 0] h (some (.int (-1))) h := by
  refine am_XR (d := d + 2) (C := cd_J0_indexOf_7cf53) (L := [some (.ref 6), some (.int 50), some (.int 0)]) rfl rfl rfl rfl ?_
  refine am_g 1 1 [some (.ref 6), some (.int 50), some (.int 0)] [.ref 6] h rfl ?_
  refine am_call (y := 216) (vs := [.ref 6]) (rest := []) (v := (some (.int 1))) (h1 := h) rfl rfl rfl (sp_J0_isLatin1_aae02_6 (d + 1) _) ?_
  refine am_g 6 14 [some (.ref 6), some (.int 50), some (.int 0)] [.ref 6, .int 0, .int 50, .ref 12] h rfl ?_
  refine am_call (y := 212) (vs := [.ref 6]) (rest := [.int 0, .int 50, .ref 12]) (v := (some (.int 3))) (h1 := h) rfl rfl rfl (sp_J0_length_8abf5_6 d _) ?_
  refine am_call (y := 220) (vs := [.ref 12, .int 50, .int 0, .int 3]) (rest := []) (v := (some (.int (-1)))) (h1 := h) rfl rfl rfl (sp_J1_indexOf_4cfef_6_50 d _) ?_
  refine am_g 1 36 [some (.ref 6), some (.int 50), some (.int 0)] [.int (-1)] h rfl ?_
  exact am_ret2 rfl rfl rfl rfl rfl
theorem sp_J0_indexOf_0f7a4_6_50 (d : Nat) (h : am_H) : am_X xs LL (d + 4) 214 [.ref 6, .int 50] h (some (.int (-1))) h := by
  refine am_XR (d := d + 3) (C := cd_J0_indexOf_0f7a4) (L := [some (.ref 6), some (.int 50)]) rfl rfl rfl rfl ?_
  refine am_g 3 3 [some (.ref 6), some (.int 50)] [.int 0, .int 50, .ref 6] h rfl ?_
  refine am_call (y := 217) (vs := [.ref 6, .int 50, .int 0]) (rest := []) (v := (some (.int (-1)))) (h1 := h) rfl rfl rfl (sp_J0_indexOf_7cf53_6_50 d _) ?_
  exact am_ret2 rfl rfl rfl rfl rfl
theorem sp_X9_byteAt_lo (d : Nat) {T : Nat} (hT : σ 8 0 = nI T) (hT20 : T ≤ 20) (i : Nat) (hi : i < T) : am_X xs LL (d + 1) 73 [.ref 20, .int (nI i)] (hG σ sr ln Lc μ) (some (.int (σ 7 i))) (hG σ sr ln Lc μ) := by
  refine am_XR (d := d + 0) (C := cd_X9_byteAt) (L := [some (.ref 20), some (.int (nI i))]) rfl rfl rfl rfl ?_
  refine am_g 2 (if (nI i) < 0 then 30 else 4) [some (.ref 20), some (.int (nI i))] [] (hG σ sr ln Lc μ) rfl ?_
  rw [if_neg (show ¬ (nI i) < 0 from (nI_pos (by omega)))]
  refine am_g 3 9 [some (.ref 20), some (.int (nI i))] [.int (σ 8 0), .int (nI i)] (hG σ sr ln Lc μ) rfl ?_
  rw [show (σ 8 0) = (nI T) from hT]
  refine am_g 1 (if (nI T) ≤ (nI i) then 30 else 12) [some (.ref 20), some (.int (nI i))] [] (hG σ sr ln Lc μ) rfl ?_
  rw [if_neg (show ¬ (nI T) ≤ (nI i) from (nI_ge hi (by omega)))]
  refine am_g 5 (if 20 ≤ (nI i) then 30 else 21) [some (.ref 20), some (.int (nI i))] [] (hG σ sr ln Lc μ) rfl ?_
  rw [if_neg (show ¬ 20 ≤ (nI i) from (am_dnle (a := 20) (b := i) rfl rfl (by omega) (by omega) (by omega)))]
  refine am_g 3 26 [some (.ref 20), some (.int (nI i))] [.int (nI i), .ref 21] (hG σ sr ln Lc μ) rfl ?_
  refine am_ialdR (n := 20) (f := (σ 7)) (k := i) rfl rfl (rfl) (by omega) (by decide) ?_
  refine am_g 1 31 [some (.ref 20), some (.int (nI i))] [.int (σ 7 i)] (hG σ sr ln Lc μ) rfl ?_
  exact am_ret2 rfl rfl rfl rfl rfl
end TP
