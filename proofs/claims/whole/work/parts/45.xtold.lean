/-! the class: lines told -/
theorem am_tswD {xs : Nat → Int32} {LL : Nat} {C : Nat → Option am_En} {K : Nat → List Value → am_H → Option Value → am_H → Prop} {pc : Nat} {L : am_L} {st : List Value} {h : am_H} {r : Option Value} {h' : am_H} {dd lo hi : Int} {offs : Array Int} {ln0 a : Nat} {v : Int} {tg : List (Nat × Nat)} {ps : List Nat} {x : Int32} (hc : C pc = some (.tableswitch dd lo hi offs, ln0, a, v, tg, ps)) (hx : x.toInt < lo ∨ hi < x.toInt) (kk : am_R xs LL C K (pc + dd.toNat) L st h r h') : am_R xs LL C K pc L (.int x :: st) h r h' := by
  refine am_R1 (S := (pc + dd.toNat, L, st, h)) hc rfl ?_ kk
  dsimp only [am_step]
  rw [if_pos hx]
section XL
variable {xs : Nat → Int32} {LL : Nat} {σ μ : Nat → Nat → Int32} {sr : Nat → Nat} {ln : Nat → Nat → Int32} {Lc : Nat}
theorem sp_X2_sort (d : Nat) (h : am_H) (r : Nat) : am_X xs LL (d + 1) 13 [.ref r] h (some (.int 0)) h := by
  refine am_XR (d := d + 0) (C := cd_X2_sort) (L := [some (.ref r)]) rfl rfl rfl rfl ?_
  refine am_g 1 1 [some (.ref r)] [.int 0] h rfl ?_
  exact am_ret2 rfl rfl rfl rfl rfl
theorem sp_X1_sort (d : Nat) (h : am_H) (r : Nat) : am_X xs LL (d + 1) 8 [.ref r] h (some (.int 1)) h := by
  refine am_XR (d := d + 0) (C := cd_X1_sort) (L := [some (.ref r)]) rfl rfl rfl rfl ?_
  refine am_g 1 1 [some (.ref r)] [.int 1] h rfl ?_
  exact am_ret2 rfl rfl rfl rfl rfl
theorem sp_X6_sort (d : Nat) (h : am_H) (r : Nat) : am_X xs LL (d + 1) 46 [.ref r] h (some (.int 2)) h := by
  refine am_XR (d := d + 0) (C := cd_X6_sort) (L := [some (.ref r)]) rfl rfl rfl rfl ?_
  refine am_g 1 1 [some (.ref r)] [.int 2] h rfl ?_
  exact am_ret2 rfl rfl rfl rfl rfl
theorem sp_X10_sort (d : Nat) (h : am_H) (r : Nat) : am_X xs LL (d + 1) 82 [.ref r] h (some (.int 3)) h := by
  refine am_XR (d := d + 0) (C := cd_X10_sort) (L := [some (.ref r)]) rfl rfl rfl rfl ?_
  refine am_g 1 1 [some (.ref r)] [.int 3] h rfl ?_
  exact am_ret2 rfl rfl rfl rfl rfl
theorem sp_X0_sort (d : Nat) (h : am_H) (r : Nat) : am_X xs LL (d + 1) 1 [.ref r] h (some (.int 4)) h := by
  refine am_XR (d := d + 0) (C := cd_X0_sort) (L := [some (.ref r)]) rfl rfl rfl rfl ?_
  refine am_g 1 1 [some (.ref r)] [.int 4] h rfl ?_
  exact am_ret2 rfl rfl rfl rfl rfl
theorem sp_X5_sort (d : Nat) (h : am_H) (r : Nat) : am_X xs LL (d + 1) 41 [.ref r] h (some (.int 5)) h := by
  refine am_XR (d := d + 0) (C := cd_X5_sort) (L := [some (.ref r)]) rfl rfl rfl rfl ?_
  refine am_g 1 1 [some (.ref r)] [.int 5] h rfl ?_
  exact am_ret2 rfl rfl rfl rfl rfl
theorem sp_X2_work (d : Nat) (h : am_H) (r : Nat) : am_X xs LL (d + 1) 14 [.ref r] h (some (.int 1)) h := by
  refine am_XR (d := d + 0) (C := cd_X2_work) (L := [some (.ref r)]) rfl rfl rfl rfl ?_
  refine am_g 1 1 [some (.ref r)] [.int 1] h rfl ?_
  exact am_ret2 rfl rfl rfl rfl rfl
theorem sp_X2_argument (d : Nat) (h : am_H) (r : Nat) : am_X xs LL (d + 1) 15 [.ref r] h (some (.int (-1))) h := by
  refine am_XR (d := d + 0) (C := cd_X2_argument) (L := [some (.ref r)]) rfl rfl rfl rfl ?_
  refine am_g 1 1 [some (.ref r)] [.int (-1)] h rfl ?_
  exact am_ret2 rfl rfl rfl rfl rfl
theorem sp_X2_object (d : Nat) (h : am_H) (r : Nat) : am_X xs LL (d + 1) 16 [.ref r] h (some (.int (-1))) h := by
  refine am_XR (d := d + 0) (C := cd_X2_object) (L := [some (.ref r)]) rfl rfl rfl rfl ?_
  refine am_g 1 1 [some (.ref r)] [.int (-1)] h rfl ?_
  exact am_ret2 rfl rfl rfl rfl rfl
theorem sp_X2_touched (d : Nat) (h : am_H) (r : Nat) : am_X xs LL (d + 1) 17 [.ref r] h (some (.int (-1))) h := by
  refine am_XR (d := d + 0) (C := cd_X2_touched) (L := [some (.ref r)]) rfl rfl rfl rfl ?_
  refine am_g 1 1 [some (.ref r)] [.int (-1)] h rfl ?_
  exact am_ret2 rfl rfl rfl rfl rfl
theorem sp_X0_touched (d : Nat) (h : am_H) (r : Nat) : am_X xs LL (d + 1) 4 [.ref r] h (some (.int (-1))) h := by
  refine am_XR (d := d + 0) (C := cd_X0_touched) (L := [some (.ref r)]) rfl rfl rfl rfl ?_
  refine am_g 1 1 [some (.ref r)] [.int (-1)] h rfl ?_
  exact am_ret2 rfl rfl rfl rfl rfl
theorem sp_X1_work (d : Nat) (i : Nat) (hi : i < Lc) : am_X xs LL (d + 2) 9 [.ref (75 + i)] (hG σ sr ln Lc μ) (some (.int 2)) (hG σ sr ln Lc μ) := by
  refine am_XR (d := d + 1) (C := cd_X1_work) (L := [some (.ref (75 + i))]) rfl rfl rfl rfl ?_
  refine am_g 1 1 [some (.ref (75 + i))] [.ref (75 + i)] (hG σ sr ln Lc μ) rfl ?_
  refine am_call (y := 14) (vs := [.ref (75 + i)]) (rest := []) (v := (some (.int 1))) (h1 := (hG σ sr ln Lc μ)) rfl rfl (am_tgtLs (i := i) rfl rfl rfl (by omega) rfl) (sp_X2_work d _ _) ?_
  refine am_g 2 6 [some (.ref (75 + i))] [.int (1 + 1)] (hG σ sr ln Lc μ) rfl ?_
  exact am_ret2 rfl rfl rfl rfl rfl
theorem sp_X6_work (d : Nat) (i : Nat) (hi : i < Lc) : am_X xs LL (d + 2) 47 [.ref (75 + i)] (hG σ sr ln Lc μ) (some (.int 3)) (hG σ sr ln Lc μ) := by
  refine am_XR (d := d + 1) (C := cd_X6_work) (L := [some (.ref (75 + i))]) rfl rfl rfl rfl ?_
  refine am_g 1 1 [some (.ref (75 + i))] [.ref (75 + i)] (hG σ sr ln Lc μ) rfl ?_
  refine am_call (y := 14) (vs := [.ref (75 + i)]) (rest := []) (v := (some (.int 1))) (h1 := (hG σ sr ln Lc μ)) rfl rfl (am_tgtLs (i := i) rfl rfl rfl (by omega) rfl) (sp_X2_work d _ _) ?_
  refine am_g 2 6 [some (.ref (75 + i))] [.int (1 + 2)] (hG σ sr ln Lc μ) rfl ?_
  exact am_ret2 rfl rfl rfl rfl rfl
theorem sp_X10_work (d : Nat) (i : Nat) (hi : i < Lc) : am_X xs LL (d + 3) 83 [.ref (75 + i)] (hG σ sr ln Lc μ) (some (.int 6)) (hG σ sr ln Lc μ) := by
  refine am_XR (d := d + 2) (C := cd_X10_work) (L := [some (.ref (75 + i))]) rfl rfl rfl rfl ?_
  refine am_g 2 2 [some (.ref (75 + i))] [.ref (75 + i), .int 2] (hG σ sr ln Lc μ) rfl ?_
  refine am_call (y := 47) (vs := [.ref (75 + i)]) (rest := [.int 2]) (v := (some (.int 3))) (h1 := (hG σ sr ln Lc μ)) rfl rfl (am_tgtLs (i := i) rfl rfl rfl (by omega) rfl) (sp_X6_work (σ := σ) (μ := μ) d i hi) ?_
  refine am_g 1 6 [some (.ref (75 + i))] [.int (2 * 3)] (hG σ sr ln Lc μ) rfl ?_
  exact am_ret2 rfl rfl rfl rfl rfl
theorem sp_X0_work (d : Nat) (i : Nat) (hi : i < Lc) : am_X xs LL (d + 3) 2 [.ref (75 + i)] (hG σ sr ln Lc μ) (some (.int 6)) (hG σ sr ln Lc μ) := by
  refine am_XR (d := d + 2) (C := cd_X0_work) (L := [some (.ref (75 + i))]) rfl rfl rfl rfl ?_
  refine am_g 1 1 [some (.ref (75 + i))] [.ref (75 + i)] (hG σ sr ln Lc μ) rfl ?_
  refine am_call (y := 47) (vs := [.ref (75 + i)]) (rest := []) (v := (some (.int 3))) (h1 := (hG σ sr ln Lc μ)) rfl rfl (am_tgtLs (i := i) rfl rfl rfl (by omega) rfl) (sp_X6_work (σ := σ) (μ := μ) d i hi) ?_
  refine am_g 2 6 [some (.ref (75 + i))] [.int (3 + 3)] (hG σ sr ln Lc μ) rfl ?_
  exact am_ret2 rfl rfl rfl rfl rfl
theorem sp_X0_argument (d : Nat) (i : Nat) (hi : i < Lc) (hs : sr i = 4) : am_X xs LL (d + 1) 3 [.ref (75 + i)] (hG σ sr ln Lc μ) (some (.int (ln i 7))) (hG σ sr ln Lc μ) := by
  refine am_XR (d := d + 0) (C := cd_X0_argument) (L := [some (.ref (75 + i))]) rfl rfl rfl rfl ?_
  refine am_g 1 1 [some (.ref (75 + i))] [.ref (75 + i)] (hG σ sr ln Lc μ) rfl ?_
  refine am_lget7R (i := i) rfl (by omega) (by rw [hs]; rfl) (by rw [hs]; exact ⟨_, rfl⟩) ?_
  exact am_ret2 rfl rfl rfl rfl rfl
theorem sp_X5_object (d : Nat) (i : Nat) (hi : i < Lc) (hs : sr i = 5) : am_X xs LL (d + 1) 42 [.ref (75 + i)] (hG σ sr ln Lc μ) (some (.int (ln i 7))) (hG σ sr ln Lc μ) := by
  refine am_XR (d := d + 0) (C := cd_X5_object) (L := [some (.ref (75 + i))]) rfl rfl rfl rfl ?_
  refine am_g 1 1 [some (.ref (75 + i))] [.ref (75 + i)] (hG σ sr ln Lc μ) rfl ?_
  refine am_lget7R (i := i) rfl (by omega) (by rw [hs]; rfl) (by rw [hs]; exact ⟨_, rfl⟩) ?_
  exact am_ret2 rfl rfl rfl rfl rfl
theorem sp_X6_touched (d : Nat) (i : Nat) (hi : i < Lc) (hs : sr i = 2) : am_X xs LL (d + 1) 48 [.ref (75 + i)] (hG σ sr ln Lc μ) (some (.int (ln i 1))) (hG σ sr ln Lc μ) := by
  refine am_XR (d := d + 0) (C := cd_X6_touched) (L := [some (.ref (75 + i))]) rfl rfl rfl rfl ?_
  refine am_g 1 1 [some (.ref (75 + i))] [.ref (75 + i)] (hG σ sr ln Lc μ) rfl ?_
  refine am_lgetR (i := i) (k := 1) rfl (by omega) (by decide) (by rw [hs]; exact ⟨_, rfl⟩) ?_
  exact am_ret2 rfl rfl rfl rfl rfl
theorem sp_X10_touched (d : Nat) (i : Nat) (hi : i < Lc) (hs : sr i = 3) : am_X xs LL (d + 1) 84 [.ref (75 + i)] (hG σ sr ln Lc μ) (some (.int (ln i 0))) (hG σ sr ln Lc μ) := by
  refine am_XR (d := d + 0) (C := cd_X10_touched) (L := [some (.ref (75 + i))]) rfl rfl rfl rfl ?_
  refine am_g 1 1 [some (.ref (75 + i))] [.ref (75 + i)] (hG σ sr ln Lc μ) rfl ?_
  refine am_lgetR (i := i) (k := 0) rfl (by omega) (by decide) (by rw [hs]; exact ⟨_, rfl⟩) ?_
  exact am_ret2 rfl rfl rfl rfl rfl
theorem sp_v_sort (d i : Nat) (hi : i < Lc) (hs : sr i < 6) : am_X xs LL (d + 1) ([13, 8, 46, 82, 1, 41].getD (sr i) 0) [.ref (75 + i)] (hG σ sr ln Lc μ) (some (.int (nI (sr i)))) (hG σ sr ln Lc μ) := by
  generalize hq : sr i = s at hs ⊢
  match s, hs with
  | 0, _ => exact sp_X2_sort d _ _
  | 1, _ => exact sp_X1_sort d _ _
  | 2, _ => exact sp_X6_sort d _ _
  | 3, _ => exact sp_X10_sort d _ _
  | 4, _ => exact sp_X0_sort d _ _
  | 5, _ => exact sp_X5_sort d _ _
theorem sp_v_work (d i : Nat) (hi : i < Lc) (hs : sr i < 6) : am_X xs LL (d + 3) ([14, 9, 47, 83, 2, 14].getD (sr i) 0) [.ref (75 + i)] (hG σ sr ln Lc μ) (some (.int (nI (am_wk (sr i))))) (hG σ sr ln Lc μ) := by
  generalize hq : sr i = s at hs ⊢
  match s, hs with
  | 0, _ => exact sp_X2_work (d + 2) _ _
  | 1, _ => exact sp_X1_work (d + 1) i hi
  | 2, _ => exact sp_X6_work (d + 1) i hi
  | 3, _ => exact sp_X10_work d i hi
  | 4, _ => exact sp_X0_work d i hi
  | 5, _ => exact sp_X2_work (d + 2) _ _
theorem sp_v_argument (d i : Nat) (hi : i < Lc) (hs : sr i < 6) : am_X xs LL (d + 1) ([15, 15, 15, 15, 3, 15].getD (sr i) 0) [.ref (75 + i)] (hG σ sr ln Lc μ) (some (.int (if (sr i) = 4 then ln i 7 else -1))) (hG σ sr ln Lc μ) := by
  generalize hq : sr i = s at hs ⊢
  match s, hs with
  | 0, _ => exact sp_X2_argument d _ _
  | 1, _ => exact sp_X2_argument d _ _
  | 2, _ => exact sp_X2_argument d _ _
  | 3, _ => exact sp_X2_argument d _ _
  | 4, _ => exact sp_X0_argument d i hi hq
  | 5, _ => exact sp_X2_argument d _ _
theorem sp_v_object (d i : Nat) (hi : i < Lc) (hs : sr i < 6) : am_X xs LL (d + 1) ([16, 16, 16, 16, 16, 42].getD (sr i) 0) [.ref (75 + i)] (hG σ sr ln Lc μ) (some (.int (if (sr i) = 5 then ln i 7 else -1))) (hG σ sr ln Lc μ) := by
  generalize hq : sr i = s at hs ⊢
  match s, hs with
  | 0, _ => exact sp_X2_object d _ _
  | 1, _ => exact sp_X2_object d _ _
  | 2, _ => exact sp_X2_object d _ _
  | 3, _ => exact sp_X2_object d _ _
  | 4, _ => exact sp_X2_object d _ _
  | 5, _ => exact sp_X5_object d i hi hq
theorem sp_v_touched (d i : Nat) (hi : i < Lc) (hs : sr i < 6) : am_X xs LL (d + 1) ([17, 17, 48, 84, 4, 17].getD (sr i) 0) [.ref (75 + i)] (hG σ sr ln Lc μ) (some (.int (if (sr i) = 2 then ln i 1 else if (sr i) = 3 then ln i 0 else -1))) (hG σ sr ln Lc μ) := by
  generalize hq : sr i = s at hs ⊢
  match s, hs with
  | 0, _ => exact sp_X2_touched d _ _
  | 1, _ => exact sp_X2_touched d _ _
  | 2, _ => exact sp_X6_touched d i hi hq
  | 3, _ => exact sp_X10_touched d i hi hq
  | 4, _ => exact sp_X0_touched d _ _
  | 5, _ => exact sp_X2_touched d _ _
theorem sp_X11_bit_v (d : Nat) (v : Int32) (hv : v = 0 ∨ v = 1) (h : am_H) : am_X xs LL (d + 1) 125 [.int v] h (some (.int v)) h := by
  rcases hv with rfl | rfl
  · exact sp_X11_bit0 d h
  · exact sp_X11_bit1 d h
theorem sp_X11_lineAt_ok (d : Nat) (q : Nat) (hq : q < Lc) (hL : Lc ≤ 40) : am_X xs LL (d + 1) 128 [.ref 14, .int (nI q)] (hG σ sr ln Lc μ) (some (.ref (75 + q))) (hG σ sr ln Lc μ) := by
  refine am_XR (d := d + 0) (C := cd_X11_lineAt) (L := [some (.ref 14), some (.int (nI q))]) rfl rfl rfl rfl ?_
  refine am_g 2 (if (nI q) < 0 then 30 else 4) [some (.ref 14), some (.int (nI q))] [] (hG σ sr ln Lc μ) rfl ?_
  rw [if_neg (show ¬ (nI q) < 0 from (nI_pos (by omega)))]
  refine am_g 4 (if (nI Lc) ≤ (nI q) then 30 else 12) [some (.ref 14), some (.int (nI q))] [] (hG σ sr ln Lc μ) rfl ?_
  rw [if_neg (show ¬ (nI Lc) ≤ (nI q) from (am_dnle (a := Lc) (b := q) (rfl) (rfl) (by omega) (by omega) (by omega)))]
  refine am_g 5 (if 40 ≤ (nI q) then 30 else 21) [some (.ref 14), some (.int (nI q))] [] (hG σ sr ln Lc μ) rfl ?_
  rw [if_neg (show ¬ 40 ≤ (nI q) from (am_dnle (a := 40) (b := q) (rfl) (rfl) (by omega) (by omega) (by omega)))]
  refine am_g 3 26 [some (.ref 14), some (.int (nI q))] [.int (nI q), .ref 22] (hG σ sr ln Lc μ) rfl ?_
  refine am_laldR (k := q) rfl (rfl) (hq) (by omega) ?_
  refine am_g 1 31 [some (.ref 14), some (.int (nI q))] [.ref (75 + q)] (hG σ sr ln Lc μ) rfl ?_
  exact am_ret2 rfl rfl rfl rfl rfl
theorem sp_X11_lineAt_no (d : Nat) (q : Int32) (hq : am_in q Lc = false) (hL : Lc ≤ 40) : am_X xs LL (d + 1) 128 [.ref 14, .int q] (hG σ sr ln Lc μ) (some (.null)) (hG σ sr ln Lc μ) := by
  refine am_XR (d := d + 0) (C := cd_X11_lineAt) (L := [some (.ref 14), some (.int q)]) rfl rfl rfl rfl ?_
  refine am_g 2 (if q < 0 then 30 else 4) [some (.ref 14), some (.int q)] [] (hG σ sr ln Lc μ) rfl (am_brR (fun c1 => ?_) (fun c1 => ?_))
  · skip
    refine am_g 1 31 [some (.ref 14), some (.int q)] [.null] (hG σ sr ln Lc μ) rfl ?_
    exact am_ret2 rfl rfl rfl rfl rfl
  · skip
    refine am_g 4 (if (nI Lc) ≤ q then 30 else 12) [some (.ref 14), some (.int q)] [] (hG σ sr ln Lc μ) rfl (am_brR (fun c2 => ?_) (fun c2 => ?_))
    · skip
      refine am_g 1 31 [some (.ref 14), some (.int q)] [.null] (hG σ sr ln Lc μ) rfl ?_
      exact am_ret2 rfl rfl rfl rfl rfl
    · skip
      exact absurd hq (by rw [am_inT c1 rfl c2 (by omega)]; decide)
theorem sp_X11_lineTold_bad (d : Nat) (q w : Int32) (hb : am_in q Lc = false) (hL : Lc ≤ 40) : am_X xs LL (d + 2) 95 [.ref 14, .int q, .int w] (hG σ sr ln Lc μ) (some (.int (-2))) (hG σ sr ln Lc μ) := by
  refine am_XR (d := d + 1) (C := cd_X11_lineTold) (L := [some (.ref 14), some (.int q), some (.int w), none]) rfl rfl rfl rfl ?_
  refine am_g 2 2 [some (.ref 14), some (.int q), some (.int w), none] [.int q, .ref 14] (hG σ sr ln Lc μ) rfl ?_
  refine am_call (y := 128) (vs := [.ref 14, .int q]) (rest := []) (v := (some (.null))) (h1 := (hG σ sr ln Lc μ)) rfl rfl rfl (sp_X11_lineAt_no (σ := σ) (μ := μ) d _ hb hL) ?_
  refine am_g 4 12 [some (.ref 14), some (.int q), some (.int w), some (.null)] [.int (-2)] (hG σ sr ln Lc μ) rfl ?_
  exact am_ret2 rfl rfl rfl rfl rfl
theorem sp_X11_lineTold_0 (d : Nat) (q : Nat) (hq : q < Lc) (hL : Lc ≤ 40) (hsr : ∀ i, i < Lc → sr i < 6) : am_X xs LL (d + 4) 95 [.ref 14, .int (nI q), .int 0] (hG σ sr ln Lc μ) (some (.int (nI (sr q)))) (hG σ sr ln Lc μ) := by
  refine am_XR (d := d + 3) (C := cd_X11_lineTold) (L := [some (.ref 14), some (.int (nI q)), some (.int 0), none]) rfl rfl rfl rfl ?_
  refine am_g 2 2 [some (.ref 14), some (.int (nI q)), some (.int 0), none] [.int (nI q), .ref 14] (hG σ sr ln Lc μ) rfl ?_
  refine am_call (y := 128) (vs := [.ref 14, .int (nI q)]) (rest := []) (v := (some (.ref (75 + q)))) (h1 := (hG σ sr ln Lc μ)) rfl rfl rfl (sp_X11_lineAt_ok (σ := σ) (μ := μ) (d + 2) q hq hL) ?_
  refine am_g 2 7 [some (.ref 14), some (.int (nI q)), some (.int 0), some (.ref (75 + q))] [.ref (75 + q)] (hG σ sr ln Lc μ) rfl ?_
  refine am_lnn2R rfl _ ?_
  refine am_g 3 73 [some (.ref 14), some (.int (nI q)), some (.int 0), some (.ref (75 + q))] [.ref (75 + q)] (hG σ sr ln Lc μ) rfl ?_
  refine am_call (y := ([13, 8, 46, 82, 1, 41].getD (sr q) 0)) (vs := [.ref (75 + q)]) (rest := []) (v := (some (.int (nI (sr q))))) (h1 := (hG σ sr ln Lc μ)) rfl rfl (am_tgtL (i := q) rfl rfl hq (am_lk (f := fun s => [13, 8, 46, 82, 1, 41].getD s 0) (by decide) (hsr _ hq)) rfl rfl) (sp_v_sort (σ := σ) (μ := μ) (d + 2) q hq (hsr _ hq)) ?_
  exact am_ret2 rfl rfl rfl rfl rfl
theorem sp_X11_lineTold_1 (d : Nat) (q : Nat) (hq : q < Lc) (hL : Lc ≤ 40) (hsr : ∀ i, i < Lc → sr i < 6) : am_X xs LL (d + 4) 95 [.ref 14, .int (nI q), .int 1] (hG σ sr ln Lc μ) (some (.int (ln q 0))) (hG σ sr ln Lc μ) := by
  refine am_XR (d := d + 3) (C := cd_X11_lineTold) (L := [some (.ref 14), some (.int (nI q)), some (.int 1), none]) rfl rfl rfl rfl ?_
  refine am_g 2 2 [some (.ref 14), some (.int (nI q)), some (.int 1), none] [.int (nI q), .ref 14] (hG σ sr ln Lc μ) rfl ?_
  refine am_call (y := 128) (vs := [.ref 14, .int (nI q)]) (rest := []) (v := (some (.ref (75 + q)))) (h1 := (hG σ sr ln Lc μ)) rfl rfl rfl (sp_X11_lineAt_ok (σ := σ) (μ := μ) (d + 2) q hq hL) ?_
  refine am_g 2 7 [some (.ref 14), some (.int (nI q)), some (.int 1), some (.ref (75 + q))] [.ref (75 + q)] (hG σ sr ln Lc μ) rfl ?_
  refine am_lnn2R rfl _ ?_
  refine am_g 3 78 [some (.ref 14), some (.int (nI q)), some (.int 1), some (.ref (75 + q))] [.ref (75 + q)] (hG σ sr ln Lc μ) rfl ?_
  refine am_lgetR (i := q) (k := 0) rfl hq (by decide) (am_lkx (by decide) (hsr _ hq)) ?_
  exact am_ret2 rfl rfl rfl rfl rfl
theorem sp_X11_lineTold_2 (d : Nat) (q : Nat) (hq : q < Lc) (hL : Lc ≤ 40) (hsr : ∀ i, i < Lc → sr i < 6) : am_X xs LL (d + 4) 95 [.ref 14, .int (nI q), .int 2] (hG σ sr ln Lc μ) (some (.int (ln q 1))) (hG σ sr ln Lc μ) := by
  refine am_XR (d := d + 3) (C := cd_X11_lineTold) (L := [some (.ref 14), some (.int (nI q)), some (.int 2), none]) rfl rfl rfl rfl ?_
  refine am_g 2 2 [some (.ref 14), some (.int (nI q)), some (.int 2), none] [.int (nI q), .ref 14] (hG σ sr ln Lc μ) rfl ?_
  refine am_call (y := 128) (vs := [.ref 14, .int (nI q)]) (rest := []) (v := (some (.ref (75 + q)))) (h1 := (hG σ sr ln Lc μ)) rfl rfl rfl (sp_X11_lineAt_ok (σ := σ) (μ := μ) (d + 2) q hq hL) ?_
  refine am_g 2 7 [some (.ref 14), some (.int (nI q)), some (.int 2), some (.ref (75 + q))] [.ref (75 + q)] (hG σ sr ln Lc μ) rfl ?_
  refine am_lnn2R rfl _ ?_
  refine am_g 3 83 [some (.ref 14), some (.int (nI q)), some (.int 2), some (.ref (75 + q))] [.ref (75 + q)] (hG σ sr ln Lc μ) rfl ?_
  refine am_lgetR (i := q) (k := 1) rfl hq (by decide) (am_lkx (by decide) (hsr _ hq)) ?_
  exact am_ret2 rfl rfl rfl rfl rfl
theorem sp_X11_lineTold_3 (d : Nat) (q : Nat) (hq : q < Lc) (hL : Lc ≤ 40) (hsr : ∀ i, i < Lc → sr i < 6) : am_X xs LL (d + 4) 95 [.ref 14, .int (nI q), .int 3] (hG σ sr ln Lc μ) (some (.int (ln q 2))) (hG σ sr ln Lc μ) := by
  refine am_XR (d := d + 3) (C := cd_X11_lineTold) (L := [some (.ref 14), some (.int (nI q)), some (.int 3), none]) rfl rfl rfl rfl ?_
  refine am_g 2 2 [some (.ref 14), some (.int (nI q)), some (.int 3), none] [.int (nI q), .ref 14] (hG σ sr ln Lc μ) rfl ?_
  refine am_call (y := 128) (vs := [.ref 14, .int (nI q)]) (rest := []) (v := (some (.ref (75 + q)))) (h1 := (hG σ sr ln Lc μ)) rfl rfl rfl (sp_X11_lineAt_ok (σ := σ) (μ := μ) (d + 2) q hq hL) ?_
  refine am_g 2 7 [some (.ref 14), some (.int (nI q)), some (.int 3), some (.ref (75 + q))] [.ref (75 + q)] (hG σ sr ln Lc μ) rfl ?_
  refine am_lnn2R rfl _ ?_
  refine am_g 3 88 [some (.ref 14), some (.int (nI q)), some (.int 3), some (.ref (75 + q))] [.ref (75 + q)] (hG σ sr ln Lc μ) rfl ?_
  refine am_lgetR (i := q) (k := 2) rfl hq (by decide) (am_lkx (by decide) (hsr _ hq)) ?_
  exact am_ret2 rfl rfl rfl rfl rfl
theorem sp_X11_lineTold_4 (d : Nat) (q : Nat) (hq : q < Lc) (hL : Lc ≤ 40) (hsr : ∀ i, i < Lc → sr i < 6) : am_X xs LL (d + 4) 95 [.ref 14, .int (nI q), .int 4] (hG σ sr ln Lc μ) (some (.int (if (sr q) = 4 then ln q 7 else -1))) (hG σ sr ln Lc μ) := by
  refine am_XR (d := d + 3) (C := cd_X11_lineTold) (L := [some (.ref 14), some (.int (nI q)), some (.int 4), none]) rfl rfl rfl rfl ?_
  refine am_g 2 2 [some (.ref 14), some (.int (nI q)), some (.int 4), none] [.int (nI q), .ref 14] (hG σ sr ln Lc μ) rfl ?_
  refine am_call (y := 128) (vs := [.ref 14, .int (nI q)]) (rest := []) (v := (some (.ref (75 + q)))) (h1 := (hG σ sr ln Lc μ)) rfl rfl rfl (sp_X11_lineAt_ok (σ := σ) (μ := μ) (d + 2) q hq hL) ?_
  refine am_g 2 7 [some (.ref 14), some (.int (nI q)), some (.int 4), some (.ref (75 + q))] [.ref (75 + q)] (hG σ sr ln Lc μ) rfl ?_
  refine am_lnn2R rfl _ ?_
  refine am_g 3 93 [some (.ref 14), some (.int (nI q)), some (.int 4), some (.ref (75 + q))] [.ref (75 + q)] (hG σ sr ln Lc μ) rfl ?_
  refine am_call (y := ([15, 15, 15, 15, 3, 15].getD (sr q) 0)) (vs := [.ref (75 + q)]) (rest := []) (v := (some (.int (if (sr q) = 4 then ln q 7 else -1)))) (h1 := (hG σ sr ln Lc μ)) rfl rfl (am_tgtL (i := q) rfl rfl hq (am_lk (f := fun s => [15, 15, 15, 15, 3, 15].getD s 0) (by decide) (hsr _ hq)) rfl rfl) (sp_v_argument (σ := σ) (μ := μ) (d + 2) q hq (hsr _ hq)) ?_
  exact am_ret2 rfl rfl rfl rfl rfl
theorem sp_X11_lineTold_5 (d : Nat) (q : Nat) (hq : q < Lc) (hL : Lc ≤ 40) (hsr : ∀ i, i < Lc → sr i < 6) : am_X xs LL (d + 4) 95 [.ref 14, .int (nI q), .int 5] (hG σ sr ln Lc μ) (some (.int (ln q 3))) (hG σ sr ln Lc μ) := by
  refine am_XR (d := d + 3) (C := cd_X11_lineTold) (L := [some (.ref 14), some (.int (nI q)), some (.int 5), none]) rfl rfl rfl rfl ?_
  refine am_g 2 2 [some (.ref 14), some (.int (nI q)), some (.int 5), none] [.int (nI q), .ref 14] (hG σ sr ln Lc μ) rfl ?_
  refine am_call (y := 128) (vs := [.ref 14, .int (nI q)]) (rest := []) (v := (some (.ref (75 + q)))) (h1 := (hG σ sr ln Lc μ)) rfl rfl rfl (sp_X11_lineAt_ok (σ := σ) (μ := μ) (d + 2) q hq hL) ?_
  refine am_g 2 7 [some (.ref 14), some (.int (nI q)), some (.int 5), some (.ref (75 + q))] [.ref (75 + q)] (hG σ sr ln Lc μ) rfl ?_
  refine am_lnn2R rfl _ ?_
  refine am_g 3 98 [some (.ref 14), some (.int (nI q)), some (.int 5), some (.ref (75 + q))] [.ref (75 + q)] (hG σ sr ln Lc μ) rfl ?_
  refine am_lgetR (i := q) (k := 3) rfl hq (by decide) (am_lkx (by decide) (hsr _ hq)) ?_
  exact am_ret2 rfl rfl rfl rfl rfl
theorem sp_X11_lineTold_6 (d : Nat) (q : Nat) (hq : q < Lc) (hL : Lc ≤ 40) (hsr : ∀ i, i < Lc → sr i < 6) : am_X xs LL (d + 4) 95 [.ref 14, .int (nI q), .int 6] (hG σ sr ln Lc μ) (some (.int (ln q 4))) (hG σ sr ln Lc μ) := by
  refine am_XR (d := d + 3) (C := cd_X11_lineTold) (L := [some (.ref 14), some (.int (nI q)), some (.int 6), none]) rfl rfl rfl rfl ?_
  refine am_g 2 2 [some (.ref 14), some (.int (nI q)), some (.int 6), none] [.int (nI q), .ref 14] (hG σ sr ln Lc μ) rfl ?_
  refine am_call (y := 128) (vs := [.ref 14, .int (nI q)]) (rest := []) (v := (some (.ref (75 + q)))) (h1 := (hG σ sr ln Lc μ)) rfl rfl rfl (sp_X11_lineAt_ok (σ := σ) (μ := μ) (d + 2) q hq hL) ?_
  refine am_g 2 7 [some (.ref 14), some (.int (nI q)), some (.int 6), some (.ref (75 + q))] [.ref (75 + q)] (hG σ sr ln Lc μ) rfl ?_
  refine am_lnn2R rfl _ ?_
  refine am_g 3 103 [some (.ref 14), some (.int (nI q)), some (.int 6), some (.ref (75 + q))] [.ref (75 + q)] (hG σ sr ln Lc μ) rfl ?_
  refine am_lgetR (i := q) (k := 4) rfl hq (by decide) (am_lkx (by decide) (hsr _ hq)) ?_
  exact am_ret2 rfl rfl rfl rfl rfl
theorem sp_X11_lineTold_7 (d : Nat) (q : Nat) (hq : q < Lc) (hL : Lc ≤ 40) (hsr : ∀ i, i < Lc → sr i < 6) (hz : ln q 6 = 0 ∨ ln q 6 = 1) : am_X xs LL (d + 4) 95 [.ref 14, .int (nI q), .int 7] (hG σ sr ln Lc μ) (some (.int (ln q 6))) (hG σ sr ln Lc μ) := by
  refine am_XR (d := d + 3) (C := cd_X11_lineTold) (L := [some (.ref 14), some (.int (nI q)), some (.int 7), none]) rfl rfl rfl rfl ?_
  refine am_g 2 2 [some (.ref 14), some (.int (nI q)), some (.int 7), none] [.int (nI q), .ref 14] (hG σ sr ln Lc μ) rfl ?_
  refine am_call (y := 128) (vs := [.ref 14, .int (nI q)]) (rest := []) (v := (some (.ref (75 + q)))) (h1 := (hG σ sr ln Lc μ)) rfl rfl rfl (sp_X11_lineAt_ok (σ := σ) (μ := μ) (d + 2) q hq hL) ?_
  refine am_g 2 7 [some (.ref 14), some (.int (nI q)), some (.int 7), some (.ref (75 + q))] [.ref (75 + q)] (hG σ sr ln Lc μ) rfl ?_
  refine am_lnn2R rfl _ ?_
  refine am_g 3 108 [some (.ref 14), some (.int (nI q)), some (.int 7), some (.ref (75 + q))] [.ref (75 + q)] (hG σ sr ln Lc μ) rfl ?_
  refine am_lgetR (i := q) (k := 6) rfl hq (by decide) (am_lkx (by decide) (hsr _ hq)) ?_
  refine am_call (y := 125) (vs := [.int (ln q 6)]) (rest := []) (v := (some (.int (ln q 6)))) (h1 := (hG σ sr ln Lc μ)) rfl rfl rfl (sp_X11_bit_v (d + 2) _ (hz) _) ?_
  exact am_ret2 rfl rfl rfl rfl rfl
theorem sp_X11_lineTold_8 (d : Nat) (q : Nat) (hq : q < Lc) (hL : Lc ≤ 40) (hsr : ∀ i, i < Lc → sr i < 6) : am_X xs LL (d + 4) 95 [.ref 14, .int (nI q), .int 8] (hG σ sr ln Lc μ) (some (.int (ln q 5))) (hG σ sr ln Lc μ) := by
  refine am_XR (d := d + 3) (C := cd_X11_lineTold) (L := [some (.ref 14), some (.int (nI q)), some (.int 8), none]) rfl rfl rfl rfl ?_
  refine am_g 2 2 [some (.ref 14), some (.int (nI q)), some (.int 8), none] [.int (nI q), .ref 14] (hG σ sr ln Lc μ) rfl ?_
  refine am_call (y := 128) (vs := [.ref 14, .int (nI q)]) (rest := []) (v := (some (.ref (75 + q)))) (h1 := (hG σ sr ln Lc μ)) rfl rfl rfl (sp_X11_lineAt_ok (σ := σ) (μ := μ) (d + 2) q hq hL) ?_
  refine am_g 2 7 [some (.ref 14), some (.int (nI q)), some (.int 8), some (.ref (75 + q))] [.ref (75 + q)] (hG σ sr ln Lc μ) rfl ?_
  refine am_lnn2R rfl _ ?_
  refine am_g 3 116 [some (.ref 14), some (.int (nI q)), some (.int 8), some (.ref (75 + q))] [.ref (75 + q)] (hG σ sr ln Lc μ) rfl ?_
  refine am_lgetR (i := q) (k := 5) rfl hq (by decide) (am_lkx (by decide) (hsr _ hq)) ?_
  exact am_ret2 rfl rfl rfl rfl rfl
theorem sp_X11_lineTold_9 (d : Nat) (q : Nat) (hq : q < Lc) (hL : Lc ≤ 40) (hsr : ∀ i, i < Lc → sr i < 6) : am_X xs LL (d + 4) 95 [.ref 14, .int (nI q), .int 9] (hG σ sr ln Lc μ) (some (.int (nI (am_wk (sr q))))) (hG σ sr ln Lc μ) := by
  refine am_XR (d := d + 3) (C := cd_X11_lineTold) (L := [some (.ref 14), some (.int (nI q)), some (.int 9), none]) rfl rfl rfl rfl ?_
  refine am_g 2 2 [some (.ref 14), some (.int (nI q)), some (.int 9), none] [.int (nI q), .ref 14] (hG σ sr ln Lc μ) rfl ?_
  refine am_call (y := 128) (vs := [.ref 14, .int (nI q)]) (rest := []) (v := (some (.ref (75 + q)))) (h1 := (hG σ sr ln Lc μ)) rfl rfl rfl (sp_X11_lineAt_ok (σ := σ) (μ := μ) (d + 2) q hq hL) ?_
  refine am_g 2 7 [some (.ref 14), some (.int (nI q)), some (.int 9), some (.ref (75 + q))] [.ref (75 + q)] (hG σ sr ln Lc μ) rfl ?_
  refine am_lnn2R rfl _ ?_
  refine am_g 3 121 [some (.ref 14), some (.int (nI q)), some (.int 9), some (.ref (75 + q))] [.ref (75 + q)] (hG σ sr ln Lc μ) rfl ?_
  refine am_call (y := ([14, 9, 47, 83, 2, 14].getD (sr q) 0)) (vs := [.ref (75 + q)]) (rest := []) (v := (some (.int (nI (am_wk (sr q)))))) (h1 := (hG σ sr ln Lc μ)) rfl rfl (am_tgtL (i := q) rfl rfl hq (am_lk (f := fun s => [14, 9, 47, 83, 2, 14].getD s 0) (by decide) (hsr _ hq)) rfl rfl) (sp_v_work (σ := σ) (μ := μ) d q hq (hsr _ hq)) ?_
  exact am_ret2 rfl rfl rfl rfl rfl
theorem sp_X11_lineTold_10 (d : Nat) (q : Nat) (hq : q < Lc) (hL : Lc ≤ 40) (hsr : ∀ i, i < Lc → sr i < 6) : am_X xs LL (d + 4) 95 [.ref 14, .int (nI q), .int 10] (hG σ sr ln Lc μ) (some (.int (if (sr q) = 5 then ln q 7 else -1))) (hG σ sr ln Lc μ) := by
  refine am_XR (d := d + 3) (C := cd_X11_lineTold) (L := [some (.ref 14), some (.int (nI q)), some (.int 10), none]) rfl rfl rfl rfl ?_
  refine am_g 2 2 [some (.ref 14), some (.int (nI q)), some (.int 10), none] [.int (nI q), .ref 14] (hG σ sr ln Lc μ) rfl ?_
  refine am_call (y := 128) (vs := [.ref 14, .int (nI q)]) (rest := []) (v := (some (.ref (75 + q)))) (h1 := (hG σ sr ln Lc μ)) rfl rfl rfl (sp_X11_lineAt_ok (σ := σ) (μ := μ) (d + 2) q hq hL) ?_
  refine am_g 2 7 [some (.ref 14), some (.int (nI q)), some (.int 10), some (.ref (75 + q))] [.ref (75 + q)] (hG σ sr ln Lc μ) rfl ?_
  refine am_lnn2R rfl _ ?_
  refine am_g 3 126 [some (.ref 14), some (.int (nI q)), some (.int 10), some (.ref (75 + q))] [.ref (75 + q)] (hG σ sr ln Lc μ) rfl ?_
  refine am_call (y := ([16, 16, 16, 16, 16, 42].getD (sr q) 0)) (vs := [.ref (75 + q)]) (rest := []) (v := (some (.int (if (sr q) = 5 then ln q 7 else -1)))) (h1 := (hG σ sr ln Lc μ)) rfl rfl (am_tgtL (i := q) rfl rfl hq (am_lk (f := fun s => [16, 16, 16, 16, 16, 42].getD s 0) (by decide) (hsr _ hq)) rfl rfl) (sp_v_object (σ := σ) (μ := μ) (d + 2) q hq (hsr _ hq)) ?_
  exact am_ret2 rfl rfl rfl rfl rfl
theorem sp_X11_lineTold_no (d : Nat) (q : Nat) (hq : q < Lc) (hL : Lc ≤ 40) (w : Int32) (hw : w.toInt < 0 ∨ 10 < w.toInt) : am_X xs LL (d + 2) 95 [.ref 14, .int (nI q), .int w] (hG σ sr ln Lc μ) (some (.int (-2))) (hG σ sr ln Lc μ) := by
  refine am_XR (d := d + 1) (C := cd_X11_lineTold) (L := [some (.ref 14), some (.int (nI q)), some (.int w), none]) rfl rfl rfl rfl ?_
  refine am_g 2 2 [some (.ref 14), some (.int (nI q)), some (.int w), none] [.int (nI q), .ref 14] (hG σ sr ln Lc μ) rfl ?_
  refine am_call (y := 128) (vs := [.ref 14, .int (nI q)]) (rest := []) (v := (some (.ref (75 + q)))) (h1 := (hG σ sr ln Lc μ)) rfl rfl rfl (sp_X11_lineAt_ok (σ := σ) (μ := μ) d q hq hL) ?_
  refine am_g 2 7 [some (.ref 14), some (.int (nI q)), some (.int w), some (.ref (75 + q))] [.ref (75 + q)] (hG σ sr ln Lc μ) rfl ?_
  refine am_lnn2R rfl _ ?_
  refine am_g 1 14 [some (.ref 14), some (.int (nI q)), some (.int w), some (.ref (75 + q))] [.int w] (hG σ sr ln Lc μ) rfl ?_
  refine am_tswD rfl (hw) ?_
  refine am_g 1 132 [some (.ref 14), some (.int (nI q)), some (.int w), some (.ref (75 + q))] [.int (-2)] (hG σ sr ln Lc μ) rfl ?_
  exact am_ret2 rfl rfl rfl rfl rfl
theorem sp_X12_lineTold_no (d : Nat) {N : Nat} (hN : μ 17 0 = nI N) (hN40 : N ≤ 40) (q : Nat) (hq : q < N) (w : Int32) (hw : w.toInt < 0 ∨ 10 < w.toInt) : am_X xs LL (d + 3) 163 [.ref 47, .int (nI q), .int w] (hG σ sr ln Lc μ) (some (.int (-2))) (hG σ sr ln Lc μ) := by
  refine am_XR (d := d + 2) (C := cd_X12_lineTold) (L := [some (.ref 47), some (.int (nI q)), some (.int w)]) rfl rfl rfl rfl ?_
  refine am_g 2 2 [some (.ref 47), some (.int (nI q)), some (.int w)] [.int (nI q), .ref 47] (hG σ sr ln Lc μ) rfl ?_
  refine am_call (y := 152) (vs := [.ref 47, .int (nI q)]) (rest := []) (v := (some (.int 1))) (h1 := (hG σ sr ln Lc μ)) rfl rfl rfl (sp_X12_isLine (σ := σ) (μ := μ) d _ hN (by omega) (am_in_of_nI hq (by omega))) ?_
  refine am_g 2 12 [some (.ref 47), some (.int (nI q)), some (.int w)] [.int w] (hG σ sr ln Lc μ) rfl ?_
  refine am_tswD rfl (hw) ?_
  refine am_g 1 162 [some (.ref 47), some (.int (nI q)), some (.int w)] [.int (-2)] (hG σ sr ln Lc μ) rfl ?_
  exact am_ret2 rfl rfl rfl rfl rfl
theorem sp_X11_turn_0 (d : Nat) (q : Nat) (hq : q < Lc) (hL : Lc ≤ 40) (hsr : ∀ i, i < Lc → sr i < 6) (hz : ln q 6 = 0 ∨ ln q 6 = 1) : am_X xs LL (d + 2) 96 [.ref 14, .int (nI q), .int 0] (hG σ sr ln Lc μ) (some (.int (ln q 6))) (hG (am_us (am_us σ 10 0) 20 0) sr (am_up ln q (upd (ln q) 6 0)) Lc μ) := by
  refine am_XR (d := d + 1) (C := cd_X11_turn) (L := [some (.ref 14), some (.int (nI q)), some (.int 0), none, none]) rfl rfl rfl rfl ?_
  refine am_g 2 2 [some (.ref 14), some (.int (nI q)), some (.int 0), none, none] [.int (nI q), .ref 14] (hG σ sr ln Lc μ) rfl ?_
  refine am_call (y := 128) (vs := [.ref 14, .int (nI q)]) (rest := []) (v := (some (.ref (75 + q)))) (h1 := (hG σ sr ln Lc μ)) rfl rfl rfl (sp_X11_lineAt_ok (σ := σ) (μ := μ) d q hq hL) ?_
  refine am_g 2 7 [some (.ref 14), some (.int (nI q)), some (.int 0), some (.ref (75 + q)), none] [.ref (75 + q)] (hG σ sr ln Lc μ) rfl ?_
  refine am_lnnR rfl _ ?_
  refine am_g 3 13 [some (.ref 14), some (.int (nI q)), some (.int 0), some (.ref (75 + q)), none] [.int 1, .int 0, .int 0] (hG σ sr ln Lc μ) rfl ?_
  refine am_call (y := 122) (vs := [.int 0, .int 0, .int 1]) (rest := []) (v := (some (.int 1))) (h1 := (hG σ sr ln Lc μ)) rfl rfl rfl (sp_X11_isWithin_b d _ _ _ _ (show decide ((0 : Int32) ≤ 0 ∧ (0 : Int32) ≤ 1) = true from by decide)) ?_
  refine am_g 2 23 [some (.ref 14), some (.int (nI q)), some (.int 0), some (.ref (75 + q)), none] [.ref (75 + q)] (hG σ sr ln Lc μ) rfl ?_
  refine am_lgetR (i := q) (k := 6) rfl hq (by decide) (am_lkx (by decide) (hsr _ hq)) ?_
  refine am_call (y := 125) (vs := [.int (ln q 6)]) (rest := []) (v := (some (.int (ln q 6)))) (h1 := (hG σ sr ln Lc μ)) rfl rfl rfl (sp_X11_bit_v d _ (hz) _) ?_
  refine am_g 6 42 [some (.ref 14), some (.int (nI q)), some (.int 0), some (.ref (75 + q)), some (.int (ln q 6))] [.int 0, .ref (75 + q)] (hG σ sr ln Lc μ) rfl ?_
  refine am_lputR (i := q) (k := 6) rfl hq (by decide) (am_lkx (by decide) (hsr _ hq)) rfl ?_
  refine am_g 1 46 [some (.ref 14), some (.int (nI q)), some (.int 0), some (.ref (75 + q)), some (.int (ln q 6))] [.ref 14] (hG σ sr (am_up ln q (upd (ln q) 6 0)) Lc μ) rfl ?_
  refine am_call (y := 131) (vs := [.ref 14]) (rest := []) (v := none) (h1 := (hG (am_us (am_us σ 10 0) 20 0) sr (am_up ln q (upd (ln q) 6 0)) Lc μ)) rfl rfl rfl (sp_X11_forgetSets (sr := sr) (ln := (am_up ln q (upd (ln q) 6 0))) (σ := σ) (μ := μ) d) ?_
  refine am_g 1 51 [some (.ref 14), some (.int (nI q)), some (.int 0), some (.ref (75 + q)), some (.int (ln q 6))] [.int (ln q 6)] (hG (am_us (am_us σ 10 0) 20 0) sr (am_up ln q (upd (ln q) 6 0)) Lc μ) rfl ?_
  exact am_ret2 rfl rfl rfl rfl rfl
theorem sp_X11_turn_1 (d : Nat) (q : Nat) (hq : q < Lc) (hL : Lc ≤ 40) (hsr : ∀ i, i < Lc → sr i < 6) (hz : ln q 6 = 0 ∨ ln q 6 = 1) : am_X xs LL (d + 2) 96 [.ref 14, .int (nI q), .int 1] (hG σ sr ln Lc μ) (some (.int (ln q 6))) (hG (am_us (am_us σ 10 0) 20 0) sr (am_up ln q (upd (ln q) 6 1)) Lc μ) := by
  refine am_XR (d := d + 1) (C := cd_X11_turn) (L := [some (.ref 14), some (.int (nI q)), some (.int 1), none, none]) rfl rfl rfl rfl ?_
  refine am_g 2 2 [some (.ref 14), some (.int (nI q)), some (.int 1), none, none] [.int (nI q), .ref 14] (hG σ sr ln Lc μ) rfl ?_
  refine am_call (y := 128) (vs := [.ref 14, .int (nI q)]) (rest := []) (v := (some (.ref (75 + q)))) (h1 := (hG σ sr ln Lc μ)) rfl rfl rfl (sp_X11_lineAt_ok (σ := σ) (μ := μ) d q hq hL) ?_
  refine am_g 2 7 [some (.ref 14), some (.int (nI q)), some (.int 1), some (.ref (75 + q)), none] [.ref (75 + q)] (hG σ sr ln Lc μ) rfl ?_
  refine am_lnnR rfl _ ?_
  refine am_g 3 13 [some (.ref 14), some (.int (nI q)), some (.int 1), some (.ref (75 + q)), none] [.int 1, .int 0, .int 1] (hG σ sr ln Lc μ) rfl ?_
  refine am_call (y := 122) (vs := [.int 1, .int 0, .int 1]) (rest := []) (v := (some (.int 1))) (h1 := (hG σ sr ln Lc μ)) rfl rfl rfl (sp_X11_isWithin_b d _ _ _ _ (show decide ((0 : Int32) ≤ 1 ∧ (1 : Int32) ≤ 1) = true from by decide)) ?_
  refine am_g 2 23 [some (.ref 14), some (.int (nI q)), some (.int 1), some (.ref (75 + q)), none] [.ref (75 + q)] (hG σ sr ln Lc μ) rfl ?_
  refine am_lgetR (i := q) (k := 6) rfl hq (by decide) (am_lkx (by decide) (hsr _ hq)) ?_
  refine am_call (y := 125) (vs := [.int (ln q 6)]) (rest := []) (v := (some (.int (ln q 6)))) (h1 := (hG σ sr ln Lc μ)) rfl rfl rfl (sp_X11_bit_v d _ (hz) _) ?_
  refine am_g 7 42 [some (.ref 14), some (.int (nI q)), some (.int 1), some (.ref (75 + q)), some (.int (ln q 6))] [.int 1, .ref (75 + q)] (hG σ sr ln Lc μ) rfl ?_
  refine am_lputR (i := q) (k := 6) rfl hq (by decide) (am_lkx (by decide) (hsr _ hq)) rfl ?_
  refine am_g 1 46 [some (.ref 14), some (.int (nI q)), some (.int 1), some (.ref (75 + q)), some (.int (ln q 6))] [.ref 14] (hG σ sr (am_up ln q (upd (ln q) 6 1)) Lc μ) rfl ?_
  refine am_call (y := 131) (vs := [.ref 14]) (rest := []) (v := none) (h1 := (hG (am_us (am_us σ 10 0) 20 0) sr (am_up ln q (upd (ln q) 6 1)) Lc μ)) rfl rfl rfl (sp_X11_forgetSets (sr := sr) (ln := (am_up ln q (upd (ln q) 6 1))) (σ := σ) (μ := μ) d) ?_
  refine am_g 1 51 [some (.ref 14), some (.int (nI q)), some (.int 1), some (.ref (75 + q)), some (.int (ln q 6))] [.int (ln q 6)] (hG (am_us (am_us σ 10 0) 20 0) sr (am_up ln q (upd (ln q) 6 1)) Lc μ) rfl ?_
  exact am_ret2 rfl rfl rfl rfl rfl
theorem sp_X11_turn_bad1 (d : Nat) (q v : Int32) (hb : am_in q Lc = false) (hL : Lc ≤ 40) : am_X xs LL (d + 2) 96 [.ref 14, .int q, .int v] (hG σ sr ln Lc μ) (some (.int (-2))) (hG σ sr ln Lc μ) := by
  refine am_XR (d := d + 1) (C := cd_X11_turn) (L := [some (.ref 14), some (.int q), some (.int v), none, none]) rfl rfl rfl rfl ?_
  refine am_g 2 2 [some (.ref 14), some (.int q), some (.int v), none, none] [.int q, .ref 14] (hG σ sr ln Lc μ) rfl ?_
  refine am_call (y := 128) (vs := [.ref 14, .int q]) (rest := []) (v := (some (.null))) (h1 := (hG σ sr ln Lc μ)) rfl rfl rfl (sp_X11_lineAt_no (σ := σ) (μ := μ) d _ hb hL) ?_
  refine am_g 4 21 [some (.ref 14), some (.int q), some (.int v), some (.null), none] [.int (-2)] (hG σ sr ln Lc μ) rfl ?_
  exact am_ret2 rfl rfl rfl rfl rfl
theorem sp_X11_turn_bad2 (d : Nat) (q : Nat) (hq : q < Lc) (hL : Lc ≤ 40) (v : Int32) (hv : am_in v 2 = false) : am_X xs LL (d + 2) 96 [.ref 14, .int (nI q), .int v] (hG σ sr ln Lc μ) (some (.int (-2))) (hG σ sr ln Lc μ) := by
  refine am_XR (d := d + 1) (C := cd_X11_turn) (L := [some (.ref 14), some (.int (nI q)), some (.int v), none, none]) rfl rfl rfl rfl ?_
  refine am_g 2 2 [some (.ref 14), some (.int (nI q)), some (.int v), none, none] [.int (nI q), .ref 14] (hG σ sr ln Lc μ) rfl ?_
  refine am_call (y := 128) (vs := [.ref 14, .int (nI q)]) (rest := []) (v := (some (.ref (75 + q)))) (h1 := (hG σ sr ln Lc μ)) rfl rfl rfl (sp_X11_lineAt_ok (σ := σ) (μ := μ) d q hq hL) ?_
  refine am_g 2 7 [some (.ref 14), some (.int (nI q)), some (.int v), some (.ref (75 + q)), none] [.ref (75 + q)] (hG σ sr ln Lc μ) rfl ?_
  refine am_lnnR rfl _ ?_
  refine am_g 3 13 [some (.ref 14), some (.int (nI q)), some (.int v), some (.ref (75 + q)), none] [.int 1, .int 0, .int v] (hG σ sr ln Lc μ) rfl ?_
  refine am_call (y := 122) (vs := [.int v, .int 0, .int 1]) (rest := []) (v := (some (.int 0))) (h1 := (hG σ sr ln Lc μ)) rfl rfl rfl (sp_X11_isWithin_b d _ _ _ _ ((am_wi (by decide)).trans hv)) ?_
  refine am_g 2 21 [some (.ref 14), some (.int (nI q)), some (.int v), some (.ref (75 + q)), none] [.int (-2)] (hG σ sr ln Lc μ) rfl ?_
  exact am_ret2 rfl rfl rfl rfl rfl
theorem sp_X11_in_ok (d : Nat) (q : Nat) (hq : q < Lc) (hL : Lc ≤ 40) (hsr : ∀ i, i < Lc → sr i < 6) (v : Int32) (hv : am_in1 v 6 = true) : am_X xs LL (d + 2) 97 [.ref 14, .int (nI q), .int v] (hG σ sr ln Lc μ) (some (.int (ln q 5))) (hG σ sr (am_up ln q (upd (ln q) 5 v)) Lc μ) := by
  refine am_XR (d := d + 1) (C := cd_X11_in) (L := [some (.ref 14), some (.int (nI q)), some (.int v), none, none]) rfl rfl rfl rfl ?_
  refine am_g 2 2 [some (.ref 14), some (.int (nI q)), some (.int v), none, none] [.int (nI q), .ref 14] (hG σ sr ln Lc μ) rfl ?_
  refine am_call (y := 128) (vs := [.ref 14, .int (nI q)]) (rest := []) (v := (some (.ref (75 + q)))) (h1 := (hG σ sr ln Lc μ)) rfl rfl rfl (sp_X11_lineAt_ok (σ := σ) (μ := μ) d q hq hL) ?_
  refine am_g 2 7 [some (.ref 14), some (.int (nI q)), some (.int v), some (.ref (75 + q)), none] [.ref (75 + q)] (hG σ sr ln Lc μ) rfl ?_
  refine am_lnnR rfl _ ?_
  refine am_g 3 13 [some (.ref 14), some (.int (nI q)), some (.int v), some (.ref (75 + q)), none] [.int 5, .int (-1), .int v] (hG σ sr ln Lc μ) rfl ?_
  refine am_call (y := 122) (vs := [.int v, .int (-1), .int 5]) (rest := []) (v := (some (.int 1))) (h1 := (hG σ sr ln Lc μ)) rfl rfl rfl (sp_X11_isWithin_b d _ _ _ _ ((am_wi1 (by decide)).trans hv)) ?_
  refine am_g 2 23 [some (.ref 14), some (.int (nI q)), some (.int v), some (.ref (75 + q)), none] [.ref (75 + q)] (hG σ sr ln Lc μ) rfl ?_
  refine am_lgetR (i := q) (k := 5) rfl hq (by decide) (am_lkx (by decide) (hsr _ hq)) ?_
  refine am_g 3 30 [some (.ref 14), some (.int (nI q)), some (.int v), some (.ref (75 + q)), some (.int (ln q 5))] [.int v, .ref (75 + q)] (hG σ sr ln Lc μ) rfl ?_
  refine am_lputR (i := q) (k := 5) rfl hq (by decide) (am_lkx (by decide) (hsr _ hq)) rfl ?_
  refine am_g 1 35 [some (.ref 14), some (.int (nI q)), some (.int v), some (.ref (75 + q)), some (.int (ln q 5))] [.int (ln q 5)] (hG σ sr (am_up ln q (upd (ln q) 5 v)) Lc μ) rfl ?_
  exact am_ret2 rfl rfl rfl rfl rfl
theorem sp_X11_in_bad1 (d : Nat) (q v : Int32) (hb : am_in q Lc = false) (hL : Lc ≤ 40) : am_X xs LL (d + 2) 97 [.ref 14, .int q, .int v] (hG σ sr ln Lc μ) (some (.int (-5))) (hG σ sr ln Lc μ) := by
  refine am_XR (d := d + 1) (C := cd_X11_in) (L := [some (.ref 14), some (.int q), some (.int v), none, none]) rfl rfl rfl rfl ?_
  refine am_g 2 2 [some (.ref 14), some (.int q), some (.int v), none, none] [.int q, .ref 14] (hG σ sr ln Lc μ) rfl ?_
  refine am_call (y := 128) (vs := [.ref 14, .int q]) (rest := []) (v := (some (.null))) (h1 := (hG σ sr ln Lc μ)) rfl rfl rfl (sp_X11_lineAt_no (σ := σ) (μ := μ) d _ hb hL) ?_
  refine am_g 4 21 [some (.ref 14), some (.int q), some (.int v), some (.null), none] [.int (-5)] (hG σ sr ln Lc μ) rfl ?_
  exact am_ret2 rfl rfl rfl rfl rfl
theorem sp_X11_in_bad2 (d : Nat) (q : Nat) (hq : q < Lc) (hL : Lc ≤ 40) (v : Int32) (hv : am_in1 v 6 = false) : am_X xs LL (d + 2) 97 [.ref 14, .int (nI q), .int v] (hG σ sr ln Lc μ) (some (.int (-5))) (hG σ sr ln Lc μ) := by
  refine am_XR (d := d + 1) (C := cd_X11_in) (L := [some (.ref 14), some (.int (nI q)), some (.int v), none, none]) rfl rfl rfl rfl ?_
  refine am_g 2 2 [some (.ref 14), some (.int (nI q)), some (.int v), none, none] [.int (nI q), .ref 14] (hG σ sr ln Lc μ) rfl ?_
  refine am_call (y := 128) (vs := [.ref 14, .int (nI q)]) (rest := []) (v := (some (.ref (75 + q)))) (h1 := (hG σ sr ln Lc μ)) rfl rfl rfl (sp_X11_lineAt_ok (σ := σ) (μ := μ) d q hq hL) ?_
  refine am_g 2 7 [some (.ref 14), some (.int (nI q)), some (.int v), some (.ref (75 + q)), none] [.ref (75 + q)] (hG σ sr ln Lc μ) rfl ?_
  refine am_lnnR rfl _ ?_
  refine am_g 3 13 [some (.ref 14), some (.int (nI q)), some (.int v), some (.ref (75 + q)), none] [.int 5, .int (-1), .int v] (hG σ sr ln Lc μ) rfl ?_
  refine am_call (y := 122) (vs := [.int v, .int (-1), .int 5]) (rest := []) (v := (some (.int 0))) (h1 := (hG σ sr ln Lc μ)) rfl rfl rfl (sp_X11_isWithin_b d _ _ _ _ ((am_wi1 (by decide)).trans hv)) ?_
  refine am_g 2 21 [some (.ref 14), some (.int (nI q)), some (.int v), some (.ref (75 + q)), none] [.int (-5)] (hG σ sr ln Lc μ) rfl ?_
  exact am_ret2 rfl rfl rfl rfl rfl
def pu_onS (ln : Nat → Nat → Int32) (Lc : Nat) (i : Nat) (a : Int32) : Int32 := if i < Lc then (if ln i 6 = 0 then a else a + 1) else a
def pu_wkS (sr : Nat → Nat) (ln : Nat → Nat → Int32) (Lc : Nat) (i : Nat) (a : Int32) : Int32 := if i < Lc then (if ln i 6 = 0 then a else a + nI (am_wk (sr i))) else a
def pu_obS (sr : Nat → Nat) (ln : Nat → Nat → Int32) (Lc : Nat) (i : Nat) (a : Int32) : Int32 := if i < Lc then (if sr i = 5 then (if ln i 6 = 0 then a else a ||| 1 <<< (ln i 7 &&& 31)) else a) else a
theorem sp_X11_linesOn (d : Nat) (hsr : ∀ i, i < Lc → sr i < 6) : am_X xs LL (d + 1) 132 [.ref 14] (hG σ sr ln Lc μ) (some (.int (am_it (pu_onS ln Lc) 0 40))) (hG σ sr ln Lc μ) := by
  refine am_XR (d := d + 0) (C := cd_X11_linesOn) (L := [some (.ref 14), none, none, none, none, none]) rfl rfl rfl rfl ?_
  refine am_g 10 13 [some (.ref 14), some (.int 0), some (.ref 22), some (.int 40), some (.int 0), none] [] (hG σ sr ln Lc μ) rfl ?_
  have lp : ∀ (r i : Nat) (w : Option Value), i + r = 40 → am_R xs LL cd_X11_linesOn (am_X xs LL (d + 0)) 13 [some (.ref 14), some (.int (am_it (pu_onS ln Lc) 0 i)), some (.ref 22), some (.int 40), some (.int (nI i)), w] [] (hG σ sr ln Lc μ) (some (.int (am_it (pu_onS ln Lc) 0 40))) (hG σ sr ln Lc μ) := by
    intro r
    induction r with
    | zero =>
      intro i w hi
      have hi2 : i = 40 := by omega
      rw [hi2]
      refine am_g 3 (if 40 ≤ (nI 40) then 47 else 19) [some (.ref 14), some (.int (am_it (pu_onS ln Lc) 0 40)), some (.ref 22), some (.int 40), some (.int (nI 40)), w] [] (hG σ sr ln Lc μ) rfl ?_
      rw [if_pos (show 40 ≤ (nI 40) from (am_dle (a := 40) (b := 40) (rfl) (rfl) (by omega) (by omega) (by omega)))]
      refine am_g 1 48 [some (.ref 14), some (.int (am_it (pu_onS ln Lc) 0 40)), some (.ref 22), some (.int 40), some (.int (nI 40)), w] [.int (am_it (pu_onS ln Lc) 0 40)] (hG σ sr ln Lc μ) rfl ?_
      exact am_ret2 rfl rfl rfl rfl rfl
    | succ r ih =>
      intro i w hi
      have hi2 : i < 40 := by omega
      by_cases hL2 : i < Lc
      · skip
        refine am_g 3 (if 40 ≤ (nI i) then 47 else 19) [some (.ref 14), some (.int (am_it (pu_onS ln Lc) 0 i)), some (.ref 22), some (.int 40), some (.int (nI i)), w] [] (hG σ sr ln Lc μ) rfl ?_
        rw [if_neg (show ¬ 40 ≤ (nI i) from (am_dnle (a := 40) (b := i) (rfl) (rfl) (by omega) (by omega) (by omega)))]
        refine am_g 2 22 [some (.ref 14), some (.int (am_it (pu_onS ln Lc) 0 i)), some (.ref 22), some (.int 40), some (.int (nI i)), w] [.int (nI i), .ref 22] (hG σ sr ln Lc μ) rfl ?_
        refine am_laldR (k := i) rfl (rfl) (hL2) (by omega) ?_
        refine am_g 2 27 [some (.ref 14), some (.int (am_it (pu_onS ln Lc) 0 i)), some (.ref 22), some (.int 40), some (.int (nI i)), some (.ref (75 + i))] [.ref (75 + i)] (hG σ sr ln Lc μ) rfl ?_
        refine am_lnnR rfl _ ?_
        refine am_g 1 32 [some (.ref 14), some (.int (am_it (pu_onS ln Lc) 0 i)), some (.ref 22), some (.int 40), some (.int (nI i)), some (.ref (75 + i))] [.ref (75 + i)] (hG σ sr ln Lc μ) rfl ?_
        refine am_lgetR (i := i) (k := 6) rfl hL2 (by decide) (am_lkx (by decide) (hsr _ hL2)) ?_
        refine am_g 1 (if (ln i 6) = 0 then 41 else 38) [some (.ref 14), some (.int (am_it (pu_onS ln Lc) 0 i)), some (.ref 22), some (.int 40), some (.int (nI i)), some (.ref (75 + i))] [] (hG σ sr ln Lc μ) rfl (am_brR (fun c1 => ?_) (fun c1 => ?_))
        · skip
          refine am_g 2 13 [some (.ref 14), some (.int (am_it (pu_onS ln Lc) 0 i)), some (.ref 22), some (.int 40), some (.int ((nI i) + 1)), some (.ref (75 + i))] [] (hG σ sr ln Lc μ) rfl ?_
          rw [nI_up, ← (show am_it (pu_onS ln Lc) 0 (i + 1) = (am_it (pu_onS ln Lc) 0 i) from (by rw [am_itS]; exact (if_pos hL2).trans (if_pos c1)))]
          exact ih (i + 1) _ (by omega)
        · skip
          refine am_g 3 13 [some (.ref 14), some (.int ((am_it (pu_onS ln Lc) 0 i) + 1)), some (.ref 22), some (.int 40), some (.int ((nI i) + 1)), some (.ref (75 + i))] [] (hG σ sr ln Lc μ) rfl ?_
          rw [nI_up, ← (show am_it (pu_onS ln Lc) 0 (i + 1) = ((am_it (pu_onS ln Lc) 0 i) + 1) from (by rw [am_itS]; exact (if_pos hL2).trans (if_neg c1)))]
          exact ih (i + 1) _ (by omega)
      · skip
        refine am_g 3 (if 40 ≤ (nI i) then 47 else 19) [some (.ref 14), some (.int (am_it (pu_onS ln Lc) 0 i)), some (.ref 22), some (.int 40), some (.int (nI i)), w] [] (hG σ sr ln Lc μ) rfl ?_
        rw [if_neg (show ¬ 40 ≤ (nI i) from (am_dnle (a := 40) (b := i) (rfl) (rfl) (by omega) (by omega) (by omega)))]
        refine am_g 2 22 [some (.ref 14), some (.int (am_it (pu_onS ln Lc) 0 i)), some (.ref 22), some (.int 40), some (.int (nI i)), w] [.int (nI i), .ref 22] (hG σ sr ln Lc μ) rfl ?_
        refine am_laldN (k := i) rfl (rfl) (hL2) (by omega) ?_
        refine am_g 5 13 [some (.ref 14), some (.int (am_it (pu_onS ln Lc) 0 i)), some (.ref 22), some (.int 40), some (.int ((nI i) + 1)), some (.null)] [] (hG σ sr ln Lc μ) rfl ?_
        rw [nI_up, ← (show am_it (pu_onS ln Lc) 0 (i + 1) = (am_it (pu_onS ln Lc) 0 i) from (by rw [am_itS]; exact if_neg hL2))]
        exact ih (i + 1) _ (by omega)
  exact lp 40 0 none (by omega)
theorem sp_X11_workOfLinesOn (d : Nat) (hsr : ∀ i, i < Lc → sr i < 6) : am_X xs LL (d + 4) 133 [.ref 14] (hG σ sr ln Lc μ) (some (.int (am_it (pu_wkS sr ln Lc) 0 40))) (hG σ sr ln Lc μ) := by
  refine am_XR (d := d + 3) (C := cd_X11_workOfLinesOn) (L := [some (.ref 14), none, none, none, none, none]) rfl rfl rfl rfl ?_
  refine am_g 10 13 [some (.ref 14), some (.int 0), some (.ref 22), some (.int 40), some (.int 0), none] [] (hG σ sr ln Lc μ) rfl ?_
  have lp : ∀ (r i : Nat) (w : Option Value), i + r = 40 → am_R xs LL cd_X11_workOfLinesOn (am_X xs LL (d + 3)) 13 [some (.ref 14), some (.int (am_it (pu_wkS sr ln Lc) 0 i)), some (.ref 22), some (.int 40), some (.int (nI i)), w] [] (hG σ sr ln Lc μ) (some (.int (am_it (pu_wkS sr ln Lc) 0 40))) (hG σ sr ln Lc μ) := by
    intro r
    induction r with
    | zero =>
      intro i w hi
      have hi2 : i = 40 := by omega
      rw [hi2]
      refine am_g 3 (if 40 ≤ (nI 40) then 52 else 19) [some (.ref 14), some (.int (am_it (pu_wkS sr ln Lc) 0 40)), some (.ref 22), some (.int 40), some (.int (nI 40)), w] [] (hG σ sr ln Lc μ) rfl ?_
      rw [if_pos (show 40 ≤ (nI 40) from (am_dle (a := 40) (b := 40) (rfl) (rfl) (by omega) (by omega) (by omega)))]
      refine am_g 1 53 [some (.ref 14), some (.int (am_it (pu_wkS sr ln Lc) 0 40)), some (.ref 22), some (.int 40), some (.int (nI 40)), w] [.int (am_it (pu_wkS sr ln Lc) 0 40)] (hG σ sr ln Lc μ) rfl ?_
      exact am_ret2 rfl rfl rfl rfl rfl
    | succ r ih =>
      intro i w hi
      have hi2 : i < 40 := by omega
      by_cases hL2 : i < Lc
      · skip
        refine am_g 3 (if 40 ≤ (nI i) then 52 else 19) [some (.ref 14), some (.int (am_it (pu_wkS sr ln Lc) 0 i)), some (.ref 22), some (.int 40), some (.int (nI i)), w] [] (hG σ sr ln Lc μ) rfl ?_
        rw [if_neg (show ¬ 40 ≤ (nI i) from (am_dnle (a := 40) (b := i) (rfl) (rfl) (by omega) (by omega) (by omega)))]
        refine am_g 2 22 [some (.ref 14), some (.int (am_it (pu_wkS sr ln Lc) 0 i)), some (.ref 22), some (.int 40), some (.int (nI i)), w] [.int (nI i), .ref 22] (hG σ sr ln Lc μ) rfl ?_
        refine am_laldR (k := i) rfl (rfl) (hL2) (by omega) ?_
        refine am_g 2 27 [some (.ref 14), some (.int (am_it (pu_wkS sr ln Lc) 0 i)), some (.ref 22), some (.int 40), some (.int (nI i)), some (.ref (75 + i))] [.ref (75 + i)] (hG σ sr ln Lc μ) rfl ?_
        refine am_lnnR rfl _ ?_
        refine am_g 1 32 [some (.ref 14), some (.int (am_it (pu_wkS sr ln Lc) 0 i)), some (.ref 22), some (.int 40), some (.int (nI i)), some (.ref (75 + i))] [.ref (75 + i)] (hG σ sr ln Lc μ) rfl ?_
        refine am_lgetR (i := i) (k := 6) rfl hL2 (by decide) (am_lkx (by decide) (hsr _ hL2)) ?_
        refine am_g 1 (if (ln i 6) = 0 then 46 else 38) [some (.ref 14), some (.int (am_it (pu_wkS sr ln Lc) 0 i)), some (.ref 22), some (.int 40), some (.int (nI i)), some (.ref (75 + i))] [] (hG σ sr ln Lc μ) rfl (am_brR (fun c1 => ?_) (fun c1 => ?_))
        · skip
          refine am_g 2 13 [some (.ref 14), some (.int (am_it (pu_wkS sr ln Lc) 0 i)), some (.ref 22), some (.int 40), some (.int ((nI i) + 1)), some (.ref (75 + i))] [] (hG σ sr ln Lc μ) rfl ?_
          rw [nI_up, ← (show am_it (pu_wkS sr ln Lc) 0 (i + 1) = (am_it (pu_wkS sr ln Lc) 0 i) from (by rw [am_itS]; exact (if_pos hL2).trans (if_pos c1)))]
          exact ih (i + 1) _ (by omega)
        · skip
          refine am_g 2 41 [some (.ref 14), some (.int (am_it (pu_wkS sr ln Lc) 0 i)), some (.ref 22), some (.int 40), some (.int (nI i)), some (.ref (75 + i))] [.ref (75 + i), .int (am_it (pu_wkS sr ln Lc) 0 i)] (hG σ sr ln Lc μ) rfl ?_
          refine am_call (y := ([14, 9, 47, 83, 2, 14].getD (sr i) 0)) (vs := [.ref (75 + i)]) (rest := [.int (am_it (pu_wkS sr ln Lc) 0 i)]) (v := (some (.int (nI (am_wk (sr i)))))) (h1 := (hG σ sr ln Lc μ)) rfl rfl (am_tgtL (i := i) rfl rfl hL2 (am_lk (f := fun s => [14, 9, 47, 83, 2, 14].getD s 0) (by decide) (hsr _ hL2)) rfl rfl) (sp_v_work (σ := σ) (μ := μ) d i hL2 (hsr _ hL2)) ?_
          refine am_g 4 13 [some (.ref 14), some (.int ((am_it (pu_wkS sr ln Lc) 0 i) + (nI (am_wk (sr i))))), some (.ref 22), some (.int 40), some (.int ((nI i) + 1)), some (.ref (75 + i))] [] (hG σ sr ln Lc μ) rfl ?_
          rw [nI_up, ← (show am_it (pu_wkS sr ln Lc) 0 (i + 1) = ((am_it (pu_wkS sr ln Lc) 0 i) + (nI (am_wk (sr i)))) from (by rw [am_itS]; exact (if_pos hL2).trans (if_neg c1)))]
          exact ih (i + 1) _ (by omega)
      · skip
        refine am_g 3 (if 40 ≤ (nI i) then 52 else 19) [some (.ref 14), some (.int (am_it (pu_wkS sr ln Lc) 0 i)), some (.ref 22), some (.int 40), some (.int (nI i)), w] [] (hG σ sr ln Lc μ) rfl ?_
        rw [if_neg (show ¬ 40 ≤ (nI i) from (am_dnle (a := 40) (b := i) (rfl) (rfl) (by omega) (by omega) (by omega)))]
        refine am_g 2 22 [some (.ref 14), some (.int (am_it (pu_wkS sr ln Lc) 0 i)), some (.ref 22), some (.int 40), some (.int (nI i)), w] [.int (nI i), .ref 22] (hG σ sr ln Lc μ) rfl ?_
        refine am_laldN (k := i) rfl (rfl) (hL2) (by omega) ?_
        refine am_g 5 13 [some (.ref 14), some (.int (am_it (pu_wkS sr ln Lc) 0 i)), some (.ref 22), some (.int 40), some (.int ((nI i) + 1)), some (.null)] [] (hG σ sr ln Lc μ) rfl ?_
        rw [nI_up, ← (show am_it (pu_wkS sr ln Lc) 0 (i + 1) = (am_it (pu_wkS sr ln Lc) 0 i) from (by rw [am_itS]; exact if_neg hL2))]
        exact ih (i + 1) _ (by omega)
  exact lp 40 0 none (by omega)
theorem pu_ins5 {s : Nat} (hs : s < 6) : [false, false, false, false, false, true].getD s false = decide (s = 5) := by
  match s, hs with
  | 0, _ => rfl
  | 1, _ => rfl
  | 2, _ => rfl
  | 3, _ => rfl
  | 4, _ => rfl
  | 5, _ => rfl
theorem sp_X11_objectsOn (d : Nat) (hsr : ∀ i, i < Lc → sr i < 6) : am_X xs LL (d + 2) 134 [.ref 14] (hG σ sr ln Lc μ) (some (.int (am_it (pu_obS sr ln Lc) 0 40))) (hG σ sr ln Lc μ) := by
  refine am_XR (d := d + 1) (C := cd_X11_objectsOn) (L := [some (.ref 14), none, none, none, none, none]) rfl rfl rfl rfl ?_
  refine am_g 10 13 [some (.ref 14), some (.int 0), some (.ref 22), some (.int 40), some (.int 0), none] [] (hG σ sr ln Lc μ) rfl ?_
  have lp : ∀ (r i : Nat) (w : Option Value), i + r = 40 → am_R xs LL cd_X11_objectsOn (am_X xs LL (d + 1)) 13 [some (.ref 14), some (.int (am_it (pu_obS sr ln Lc) 0 i)), some (.ref 22), some (.int 40), some (.int (nI i)), w] [] (hG σ sr ln Lc μ) (some (.int (am_it (pu_obS sr ln Lc) 0 40))) (hG σ sr ln Lc μ) := by
    intro r
    induction r with
    | zero =>
      intro i w hi
      have hi2 : i = 40 := by omega
      rw [hi2]
      refine am_g 3 (if 40 ≤ (nI 40) then 57 else 19) [some (.ref 14), some (.int (am_it (pu_obS sr ln Lc) 0 40)), some (.ref 22), some (.int 40), some (.int (nI 40)), w] [] (hG σ sr ln Lc μ) rfl ?_
      rw [if_pos (show 40 ≤ (nI 40) from (am_dle (a := 40) (b := 40) (rfl) (rfl) (by omega) (by omega) (by omega)))]
      refine am_g 1 58 [some (.ref 14), some (.int (am_it (pu_obS sr ln Lc) 0 40)), some (.ref 22), some (.int 40), some (.int (nI 40)), w] [.int (am_it (pu_obS sr ln Lc) 0 40)] (hG σ sr ln Lc μ) rfl ?_
      exact am_ret2 rfl rfl rfl rfl rfl
    | succ r ih =>
      intro i w hi
      have hi2 : i < 40 := by omega
      by_cases hL2 : i < Lc
      · skip
        refine am_g 3 (if 40 ≤ (nI i) then 57 else 19) [some (.ref 14), some (.int (am_it (pu_obS sr ln Lc) 0 i)), some (.ref 22), some (.int 40), some (.int (nI i)), w] [] (hG σ sr ln Lc μ) rfl ?_
        rw [if_neg (show ¬ 40 ≤ (nI i) from (am_dnle (a := 40) (b := i) (rfl) (rfl) (by omega) (by omega) (by omega)))]
        refine am_g 2 22 [some (.ref 14), some (.int (am_it (pu_obS sr ln Lc) 0 i)), some (.ref 22), some (.int 40), some (.int (nI i)), w] [.int (nI i), .ref 22] (hG σ sr ln Lc μ) rfl ?_
        refine am_laldR (k := i) rfl (rfl) (hL2) (by omega) ?_
        refine am_g 2 27 [some (.ref 14), some (.int (am_it (pu_obS sr ln Lc) 0 i)), some (.ref 22), some (.int 40), some (.int (nI i)), some (.ref (75 + i))] [.ref (75 + i)] (hG σ sr ln Lc μ) rfl ?_
        refine am_linsR (i := i) (b := [false, false, false, false, false, true].getD (sr i) false) rfl hL2 (am_lk (f := fun s => bif [false, false, false, false, false, true].getD s false then 1 else 0) (by decide) (hsr _ hL2)) ?_
        cases e1 : [false, false, false, false, false, true].getD (sr i) false with
        | false =>
          refine am_g 3 13 [some (.ref 14), some (.int (am_it (pu_obS sr ln Lc) 0 i)), some (.ref 22), some (.int 40), some (.int ((nI i) + 1)), some (.ref (75 + i))] [] (hG σ sr ln Lc μ) rfl ?_
          have qq : am_it (pu_obS sr ln Lc) 0 (i + 1) = (am_it (pu_obS sr ln Lc) 0 i) := by
            rw [am_itS]
            have e5 := e1; rw [pu_ins5 (hsr i hL2)] at e5
            exact (if_pos hL2).trans (if_neg (of_decide_eq_false e5))
          rw [nI_up, ← qq]
          exact ih (i + 1) _ (by omega)
        | true =>
          refine am_g 2 35 [some (.ref 14), some (.int (am_it (pu_obS sr ln Lc) 0 i)), some (.ref 22), some (.int 40), some (.int (nI i)), some (.ref (75 + i))] [.ref (75 + i)] (hG σ sr ln Lc μ) rfl ?_
          refine am_lgetR (i := i) (k := 6) rfl hL2 (by decide) (am_lkx (by decide) (hsr _ hL2)) ?_
          refine am_g 1 (if (ln i 6) = 0 then 51 else 41) [some (.ref 14), some (.int (am_it (pu_obS sr ln Lc) 0 i)), some (.ref 22), some (.int 40), some (.int (nI i)), some (.ref (75 + i))] [] (hG σ sr ln Lc μ) rfl (am_brR (fun c2 => ?_) (fun c2 => ?_))
          · skip
            refine am_g 2 13 [some (.ref 14), some (.int (am_it (pu_obS sr ln Lc) 0 i)), some (.ref 22), some (.int 40), some (.int ((nI i) + 1)), some (.ref (75 + i))] [] (hG σ sr ln Lc μ) rfl ?_
            have qq : am_it (pu_obS sr ln Lc) 0 (i + 1) = (am_it (pu_obS sr ln Lc) 0 i) := by
              rw [am_itS]
              have e5 := e1; rw [pu_ins5 (hsr i hL2)] at e5
              exact (if_pos hL2).trans ((if_pos (of_decide_eq_true e5)).trans (if_pos c2))
            rw [nI_up, ← qq]
            exact ih (i + 1) _ (by omega)
          · skip
            refine am_g 3 45 [some (.ref 14), some (.int (am_it (pu_obS sr ln Lc) 0 i)), some (.ref 22), some (.int 40), some (.int (nI i)), some (.ref (75 + i))] [.ref (75 + i), .int 1, .int (am_it (pu_obS sr ln Lc) 0 i)] (hG σ sr ln Lc μ) rfl ?_
            refine am_call (y := ([16, 16, 16, 16, 16, 42].getD (sr i) 0)) (vs := [.ref (75 + i)]) (rest := [.int 1, .int (am_it (pu_obS sr ln Lc) 0 i)]) (v := (some (.int (if (sr i) = 5 then ln i 7 else -1)))) (h1 := (hG σ sr ln Lc μ)) rfl rfl (am_tgtL (i := i) rfl rfl hL2 (am_lk (f := fun s => [16, 16, 16, 16, 16, 42].getD s 0) (by decide) (hsr _ hL2)) rfl rfl) (sp_v_object (σ := σ) (μ := μ) d i hL2 (hsr _ hL2)) ?_
            refine am_g 5 13 [some (.ref 14), some (.int ((am_it (pu_obS sr ln Lc) 0 i) ||| (1 <<< ((if (sr i) = 5 then ln i 7 else -1) &&& 31)))), some (.ref 22), some (.int 40), some (.int ((nI i) + 1)), some (.ref (75 + i))] [] (hG σ sr ln Lc μ) rfl ?_
            have qq : am_it (pu_obS sr ln Lc) 0 (i + 1) = ((am_it (pu_obS sr ln Lc) 0 i) ||| (1 <<< ((if (sr i) = 5 then ln i 7 else -1) &&& 31))) := by
              rw [am_itS]
              have e5 := e1; rw [pu_ins5 (hsr i hL2)] at e5
              exact (if_pos hL2).trans ((if_pos (of_decide_eq_true e5)).trans ((if_neg c2).trans (by rw [if_pos (of_decide_eq_true e5)])))
            rw [nI_up, ← qq]
            exact ih (i + 1) _ (by omega)
      · skip
        refine am_g 3 (if 40 ≤ (nI i) then 57 else 19) [some (.ref 14), some (.int (am_it (pu_obS sr ln Lc) 0 i)), some (.ref 22), some (.int 40), some (.int (nI i)), w] [] (hG σ sr ln Lc μ) rfl ?_
        rw [if_neg (show ¬ 40 ≤ (nI i) from (am_dnle (a := 40) (b := i) (rfl) (rfl) (by omega) (by omega) (by omega)))]
        refine am_g 2 22 [some (.ref 14), some (.int (am_it (pu_obS sr ln Lc) 0 i)), some (.ref 22), some (.int 40), some (.int (nI i)), w] [.int (nI i), .ref 22] (hG σ sr ln Lc μ) rfl ?_
        refine am_laldN (k := i) rfl (rfl) (hL2) (by omega) ?_
        refine am_g 6 13 [some (.ref 14), some (.int (am_it (pu_obS sr ln Lc) 0 i)), some (.ref 22), some (.int 40), some (.int ((nI i) + 1)), some (.null)] [] (hG σ sr ln Lc μ) rfl ?_
        have qq : am_it (pu_obS sr ln Lc) 0 (i + 1) = (am_it (pu_obS sr ln Lc) 0 i) := by
          rw [am_itS]
          exact if_neg hL2
        rw [nI_up, ← qq]
        exact ih (i + 1) _ (by omega)
  exact lp 40 0 none (by omega)
theorem sp_X11_count_0 (d : Nat) (hsr : ∀ i, i < Lc → sr i < 6) : am_X xs LL (d + 5) 116 [.ref 14, .int 0] (hG σ sr ln Lc μ) (some (.int (σ 5 0))) (hG σ sr ln Lc μ) := by
  refine am_XR (d := d + 4) (C := cd_X11_count) (L := [some (.ref 14), some (.int 0)]) rfl rfl rfl rfl ?_
  refine am_g 5 47 [some (.ref 14), some (.int 0)] [.int (σ 5 0)] (hG σ sr ln Lc μ) rfl ?_
  exact am_ret2 rfl rfl rfl rfl rfl
theorem sp_X11_count_1 (d : Nat) (hsr : ∀ i, i < Lc → sr i < 6) : am_X xs LL (d + 5) 116 [.ref 14, .int 1] (hG σ sr ln Lc μ) (some (.int (nI Lc))) (hG σ sr ln Lc μ) := by
  refine am_XR (d := d + 4) (C := cd_X11_count) (L := [some (.ref 14), some (.int 1)]) rfl rfl rfl rfl ?_
  refine am_g 4 52 [some (.ref 14), some (.int 1)] [.int (nI Lc)] (hG σ sr ln Lc μ) rfl ?_
  exact am_ret2 rfl rfl rfl rfl rfl
theorem sp_X11_count_2 (d : Nat) (hsr : ∀ i, i < Lc → sr i < 6) : am_X xs LL (d + 5) 116 [.ref 14, .int 2] (hG σ sr ln Lc μ) (some (.int (am_it (pu_onS ln Lc) 0 40))) (hG σ sr ln Lc μ) := by
  refine am_XR (d := d + 4) (C := cd_X11_count) (L := [some (.ref 14), some (.int 2)]) rfl rfl rfl rfl ?_
  refine am_g 3 54 [some (.ref 14), some (.int 2)] [.ref 14] (hG σ sr ln Lc μ) rfl ?_
  refine am_call (y := 132) (vs := [.ref 14]) (rest := []) (v := (some (.int (am_it (pu_onS ln Lc) 0 40)))) (h1 := (hG σ sr ln Lc μ)) rfl rfl rfl (sp_X11_linesOn (σ := σ) (μ := μ) (d + 3) hsr) ?_
  exact am_ret2 rfl rfl rfl rfl rfl
theorem sp_X11_count_3 (d : Nat) (hsr : ∀ i, i < Lc → sr i < 6) : am_X xs LL (d + 5) 116 [.ref 14, .int 3] (hG σ sr ln Lc μ) (some (.int (σ 6 0))) (hG σ sr ln Lc μ) := by
  refine am_XR (d := d + 4) (C := cd_X11_count) (L := [some (.ref 14), some (.int 3)]) rfl rfl rfl rfl ?_
  refine am_g 5 65 [some (.ref 14), some (.int 3)] [.int (σ 6 0)] (hG σ sr ln Lc μ) rfl ?_
  exact am_ret2 rfl rfl rfl rfl rfl
theorem sp_X11_count_4 (d : Nat) (hsr : ∀ i, i < Lc → sr i < 6) : am_X xs LL (d + 5) 116 [.ref 14, .int 4] (hG σ sr ln Lc μ) (some (.int (σ 8 0))) (hG σ sr ln Lc μ) := by
  refine am_XR (d := d + 4) (C := cd_X11_count) (L := [some (.ref 14), some (.int 4)]) rfl rfl rfl rfl ?_
  refine am_g 5 73 [some (.ref 14), some (.int 4)] [.int (σ 8 0)] (hG σ sr ln Lc μ) rfl ?_
  exact am_ret2 rfl rfl rfl rfl rfl
theorem sp_X11_count_5 (d : Nat) (hsr : ∀ i, i < Lc → sr i < 6) : am_X xs LL (d + 5) 116 [.ref 14, .int 5] (hG σ sr ln Lc μ) (some (.int (am_it (pu_wkS sr ln Lc) 0 40))) (hG σ sr ln Lc μ) := by
  refine am_XR (d := d + 4) (C := cd_X11_count) (L := [some (.ref 14), some (.int 5)]) rfl rfl rfl rfl ?_
  refine am_g 3 75 [some (.ref 14), some (.int 5)] [.ref 14] (hG σ sr ln Lc μ) rfl ?_
  refine am_call (y := 133) (vs := [.ref 14]) (rest := []) (v := (some (.int (am_it (pu_wkS sr ln Lc) 0 40)))) (h1 := (hG σ sr ln Lc μ)) rfl rfl rfl (sp_X11_workOfLinesOn (σ := σ) (μ := μ) d hsr) ?_
  exact am_ret2 rfl rfl rfl rfl rfl
theorem sp_X11_count_no (d : Nat) (w : Int32) (hw : w.toInt < 0 ∨ 5 < w.toInt) : am_X xs LL (d + 1) 116 [.ref 14, .int w] (hG σ sr ln Lc μ) (some (.int (-2))) (hG σ sr ln Lc μ) := by
  refine am_XR (d := d + 0) (C := cd_X11_count) (L := [some (.ref 14), some (.int w)]) rfl rfl rfl rfl ?_
  refine am_g 1 1 [some (.ref 14), some (.int w)] [.int w] (hG σ sr ln Lc μ) rfl ?_
  refine am_tswD rfl (hw) ?_
  refine am_g 1 81 [some (.ref 14), some (.int w)] [.int (-2)] (hG σ sr ln Lc μ) rfl ?_
  exact am_ret2 rfl rfl rfl rfl rfl
theorem sp_X12_count_0 (d : Nat)  : am_X xs LL (d + 1) 201 [.ref 47, .int 0] (hG σ sr ln Lc μ) (some (.int (μ 3 0))) (hG σ sr ln Lc μ) := by
  refine am_XR (d := d + 0) (C := cd_X12_count) (L := [some (.ref 47), some (.int 0), none, none]) rfl rfl rfl rfl ?_
  refine am_g 6 44 [some (.ref 47), some (.int 0), some (.int 0), none] [.int (μ 3 0)] (hG σ sr ln Lc μ) rfl ?_
  exact am_ret2 rfl rfl rfl rfl rfl
theorem sp_X12_count_1 (d : Nat)  : am_X xs LL (d + 1) 201 [.ref 47, .int 1] (hG σ sr ln Lc μ) (some (.int (μ 17 0))) (hG σ sr ln Lc μ) := by
  refine am_XR (d := d + 0) (C := cd_X12_count) (L := [some (.ref 47), some (.int 1), none, none]) rfl rfl rfl rfl ?_
  refine am_g 6 49 [some (.ref 47), some (.int 1), some (.int 0), none] [.int (μ 17 0)] (hG σ sr ln Lc μ) rfl ?_
  exact am_ret2 rfl rfl rfl rfl rfl
theorem sp_X12_count_3 (d : Nat)  : am_X xs LL (d + 1) 201 [.ref 47, .int 3] (hG σ sr ln Lc μ) (some (.int (μ 19 0))) (hG σ sr ln Lc μ) := by
  refine am_XR (d := d + 0) (C := cd_X12_count) (L := [some (.ref 47), some (.int 3), none, none]) rfl rfl rfl rfl ?_
  refine am_g 6 89 [some (.ref 47), some (.int 3), some (.int 0), none] [.int (μ 19 0)] (hG σ sr ln Lc μ) rfl ?_
  exact am_ret2 rfl rfl rfl rfl rfl
theorem sp_X12_count_4 (d : Nat)  : am_X xs LL (d + 1) 201 [.ref 47, .int 4] (hG σ sr ln Lc μ) (some (.int (μ 21 0))) (hG σ sr ln Lc μ) := by
  refine am_XR (d := d + 0) (C := cd_X12_count) (L := [some (.ref 47), some (.int 4), none, none]) rfl rfl rfl rfl ?_
  refine am_g 6 94 [some (.ref 47), some (.int 4), some (.int 0), none] [.int (μ 21 0)] (hG σ sr ln Lc μ) rfl ?_
  exact am_ret2 rfl rfl rfl rfl rfl
theorem sp_X12_count_5 (d : Nat) {N : Nat} (hN : μ 17 0 = nI N) (hN40 : N ≤ 40) (hs : ∀ i, i < N → ∃ s, s < 6 ∧ μ 7 i = nI s) : am_X xs LL (d + 3) 201 [.ref 47, .int 5] (hG σ sr ln Lc μ) (some (.int (am_sumF (am_wkF (μ 14) (μ 7)) N))) (hG σ sr ln Lc μ) := by
  refine am_XR (d := d + 2) (C := cd_X12_count) (L := [some (.ref 47), some (.int 5), none, none]) rfl rfl rfl rfl ?_
  refine am_g 5 96 [some (.ref 47), some (.int 5), some (.int 0), none] [.ref 47] (hG σ sr ln Lc μ) rfl ?_
  refine am_call (y := 181) (vs := [.ref 47]) (rest := []) (v := (some (.int (am_sumF (am_wkF (μ 14) (μ 7)) N)))) (h1 := (hG σ sr ln Lc μ)) rfl rfl rfl (sp_X12_workOfAll (σ := σ) (μ := μ) d hN hN40 hs) ?_
  exact am_ret2 rfl rfl rfl rfl rfl
theorem sp_X12_count_no (d : Nat) (w : Int32) (hw : w.toInt < 0 ∨ 5 < w.toInt) : am_X xs LL (d + 1) 201 [.ref 47, .int w] (hG σ sr ln Lc μ) (some (.int (-2))) (hG σ sr ln Lc μ) := by
  refine am_XR (d := d + 0) (C := cd_X12_count) (L := [some (.ref 47), some (.int w), none, none]) rfl rfl rfl rfl ?_
  refine am_g 3 3 [some (.ref 47), some (.int w), some (.int 0), none] [.int w] (hG σ sr ln Lc μ) rfl ?_
  refine am_tswD rfl (hw) ?_
  refine am_g 1 102 [some (.ref 47), some (.int w), some (.int 0), none] [.int (-2)] (hG σ sr ln Lc μ) rfl ?_
  exact am_ret2 rfl rfl rfl rfl rfl
end XL
