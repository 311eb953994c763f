/-! the reference: names, lines told -/
section ML2
variable {xs : Nat → Int32} {LL : Nat} {σ μ : Nat → Nat → Int32} {sr : Nat → Nat} {ln : Nat → Nat → Int32} {Lc : Nat}
theorem sp_X12_seen_ok (d : Nat) (q : Nat) (hq : q < 20) : am_X xs LL (d + 3) 199 [.ref 47, .int (nI q)] (hG σ sr ln Lc μ) (some (.int (μ 31 q))) (hG σ sr ln Lc μ) := by
  refine am_XR (d := d + 2) (C := cd_X12_seen) (L := [some (.ref 47), some (.int (nI q))]) rfl rfl rfl rfl ?_
  refine am_g 1 1 [some (.ref 47), some (.int (nI q))] [.int (nI q)] (hG σ sr ln Lc μ) rfl ?_
  refine am_call (y := 143) (vs := [.int (nI q)]) (rest := []) (v := (some (.int 1))) (h1 := (hG σ sr ln Lc μ)) rfl rfl rfl (sp_X12_isName d _ _ (am_in_of_nI hq (by omega))) ?_
  refine am_g 4 12 [some (.ref 47), some (.int (nI q))] [.int (nI q), .ref 69] (hG σ sr ln Lc μ) rfl ?_
  refine am_ialdR (n := 20) (f := (μ 31)) (k := q) rfl rfl (rfl) (by omega) (by decide) ?_
  refine am_g 1 18 [some (.ref 47), some (.int (nI q))] [.int (μ 31 q)] (hG σ sr ln Lc μ) rfl ?_
  exact am_ret2 rfl rfl rfl rfl rfl
theorem sp_X12_seen_bad (d : Nat) (q : Int32) (hb : am_in q 20 = false) : am_X xs LL (d + 3) 199 [.ref 47, .int q] (hG σ sr ln Lc μ) (some (.int (-2))) (hG σ sr ln Lc μ) := by
  refine am_XR (d := d + 2) (C := cd_X12_seen) (L := [some (.ref 47), some (.int q)]) rfl rfl rfl rfl ?_
  refine am_g 1 1 [some (.ref 47), some (.int q)] [.int q] (hG σ sr ln Lc μ) rfl ?_
  refine am_call (y := 143) (vs := [.int q]) (rest := []) (v := (some (.int 0))) (h1 := (hG σ sr ln Lc μ)) rfl rfl rfl (sp_X12_isName d _ _ hb) ?_
  refine am_g 2 18 [some (.ref 47), some (.int q)] [.int (-2)] (hG σ sr ln Lc μ) rfl ?_
  exact am_ret2 rfl rfl rfl rfl rfl
theorem sp_X12_now_ok (d : Nat) (q : Nat) (hq : q < 20) : am_X xs LL (d + 3) 200 [.ref 47, .int (nI q)] (hG σ sr ln Lc μ) (some (.int (μ 30 q))) (hG σ sr ln Lc μ) := by
  refine am_XR (d := d + 2) (C := cd_X12_now) (L := [some (.ref 47), some (.int (nI q))]) rfl rfl rfl rfl ?_
  refine am_g 1 1 [some (.ref 47), some (.int (nI q))] [.int (nI q)] (hG σ sr ln Lc μ) rfl ?_
  refine am_call (y := 143) (vs := [.int (nI q)]) (rest := []) (v := (some (.int 1))) (h1 := (hG σ sr ln Lc μ)) rfl rfl rfl (sp_X12_isName d _ _ (am_in_of_nI hq (by omega))) ?_
  refine am_g 4 12 [some (.ref 47), some (.int (nI q))] [.int (nI q), .ref 68] (hG σ sr ln Lc μ) rfl ?_
  refine am_ialdR (n := 20) (f := (μ 30)) (k := q) rfl rfl (rfl) (by omega) (by decide) ?_
  refine am_g 1 18 [some (.ref 47), some (.int (nI q))] [.int (μ 30 q)] (hG σ sr ln Lc μ) rfl ?_
  exact am_ret2 rfl rfl rfl rfl rfl
theorem sp_X12_now_bad (d : Nat) (q : Int32) (hb : am_in q 20 = false) : am_X xs LL (d + 3) 200 [.ref 47, .int q] (hG σ sr ln Lc μ) (some (.int (-2))) (hG σ sr ln Lc μ) := by
  refine am_XR (d := d + 2) (C := cd_X12_now) (L := [some (.ref 47), some (.int q)]) rfl rfl rfl rfl ?_
  refine am_g 1 1 [some (.ref 47), some (.int q)] [.int q] (hG σ sr ln Lc μ) rfl ?_
  refine am_call (y := 143) (vs := [.int q]) (rest := []) (v := (some (.int 0))) (h1 := (hG σ sr ln Lc μ)) rfl rfl rfl (sp_X12_isName d _ _ hb) ?_
  refine am_g 2 18 [some (.ref 47), some (.int q)] [.int (-2)] (hG σ sr ln Lc μ) rfl ?_
  exact am_ret2 rfl rfl rfl rfl rfl
theorem sp_X12_lineTold_bad (d : Nat) {N : Nat} (hN : μ 17 0 = nI N) (hN40 : N ≤ 40) (q w : Int32) (hb : am_in q N = false) : am_X xs LL (d + 3) 163 [.ref 47, .int q, .int w] (hG σ sr ln Lc μ) (some (.int (-2))) (hG σ sr ln Lc μ) := by
  refine am_XR (d := d + 2) (C := cd_X12_lineTold) (L := [some (.ref 47), some (.int q), some (.int w)]) rfl rfl rfl rfl ?_
  refine am_g 2 2 [some (.ref 47), some (.int q), some (.int w)] [.int q, .ref 47] (hG σ sr ln Lc μ) rfl ?_
  refine am_call (y := 152) (vs := [.ref 47, .int q]) (rest := []) (v := (some (.int 0))) (h1 := (hG σ sr ln Lc μ)) rfl rfl rfl (sp_X12_isLine (σ := σ) (μ := μ) d _ hN (by omega) hb) ?_
  refine am_g 2 10 [some (.ref 47), some (.int q), some (.int w)] [.int (-2)] (hG σ sr ln Lc μ) rfl ?_
  exact am_ret2 rfl rfl rfl rfl rfl
theorem sp_X12_lineTold_0 (d : Nat) {N : Nat} (hN : μ 17 0 = nI N) (hN40 : N ≤ 40) (q : Nat) (hq : q < N) : am_X xs LL (d + 3) 163 [.ref 47, .int (nI q), .int 0] (hG σ sr ln Lc μ) (some (.int (μ 7 q))) (hG σ sr ln Lc μ) := by
  refine am_XR (d := d + 2) (C := cd_X12_lineTold) (L := [some (.ref 47), some (.int (nI q)), some (.int 0)]) rfl rfl rfl rfl ?_
  refine am_g 2 2 [some (.ref 47), some (.int (nI q)), some (.int 0)] [.int (nI q), .ref 47] (hG σ sr ln Lc μ) rfl ?_
  refine am_call (y := 152) (vs := [.ref 47, .int (nI q)]) (rest := []) (v := (some (.int 1))) (h1 := (hG σ sr ln Lc μ)) rfl rfl rfl (sp_X12_isLine (σ := σ) (μ := μ) d _ hN (by omega) (am_in_of_nI hq (by omega))) ?_
  refine am_g 6 77 [some (.ref 47), some (.int (nI q)), some (.int 0)] [.int (nI q), .ref 53] (hG σ sr ln Lc μ) rfl ?_
  refine am_ialdR (n := 40) (f := (μ 7)) (k := q) rfl rfl (rfl) (by omega) (by decide) ?_
  exact am_ret2 rfl rfl rfl rfl rfl
theorem sp_X12_lineTold_1 (d : Nat) {N : Nat} (hN : μ 17 0 = nI N) (hN40 : N ≤ 40) (q : Nat) (hq : q < N) : am_X xs LL (d + 3) 163 [.ref 47, .int (nI q), .int 1] (hG σ sr ln Lc μ) (some (.int (μ 8 q))) (hG σ sr ln Lc μ) := by
  refine am_XR (d := d + 2) (C := cd_X12_lineTold) (L := [some (.ref 47), some (.int (nI q)), some (.int 1)]) rfl rfl rfl rfl ?_
  refine am_g 2 2 [some (.ref 47), some (.int (nI q)), some (.int 1)] [.int (nI q), .ref 47] (hG σ sr ln Lc μ) rfl ?_
  refine am_call (y := 152) (vs := [.ref 47, .int (nI q)]) (rest := []) (v := (some (.int 1))) (h1 := (hG σ sr ln Lc μ)) rfl rfl rfl (sp_X12_isLine (σ := σ) (μ := μ) d _ hN (by omega) (am_in_of_nI hq (by omega))) ?_
  refine am_g 6 84 [some (.ref 47), some (.int (nI q)), some (.int 1)] [.int (nI q), .ref 54] (hG σ sr ln Lc μ) rfl ?_
  refine am_ialdR (n := 40) (f := (μ 8)) (k := q) rfl rfl (rfl) (by omega) (by decide) ?_
  exact am_ret2 rfl rfl rfl rfl rfl
theorem sp_X12_lineTold_2 (d : Nat) {N : Nat} (hN : μ 17 0 = nI N) (hN40 : N ≤ 40) (q : Nat) (hq : q < N) : am_X xs LL (d + 3) 163 [.ref 47, .int (nI q), .int 2] (hG σ sr ln Lc μ) (some (.int (μ 9 q))) (hG σ sr ln Lc μ) := by
  refine am_XR (d := d + 2) (C := cd_X12_lineTold) (L := [some (.ref 47), some (.int (nI q)), some (.int 2)]) rfl rfl rfl rfl ?_
  refine am_g 2 2 [some (.ref 47), some (.int (nI q)), some (.int 2)] [.int (nI q), .ref 47] (hG σ sr ln Lc μ) rfl ?_
  refine am_call (y := 152) (vs := [.ref 47, .int (nI q)]) (rest := []) (v := (some (.int 1))) (h1 := (hG σ sr ln Lc μ)) rfl rfl rfl (sp_X12_isLine (σ := σ) (μ := μ) d _ hN (by omega) (am_in_of_nI hq (by omega))) ?_
  refine am_g 6 91 [some (.ref 47), some (.int (nI q)), some (.int 2)] [.int (nI q), .ref 55] (hG σ sr ln Lc μ) rfl ?_
  refine am_ialdR (n := 40) (f := (μ 9)) (k := q) rfl rfl (rfl) (by omega) (by decide) ?_
  exact am_ret2 rfl rfl rfl rfl rfl
theorem sp_X12_lineTold_3 (d : Nat) {N : Nat} (hN : μ 17 0 = nI N) (hN40 : N ≤ 40) (q : Nat) (hq : q < N) : am_X xs LL (d + 3) 163 [.ref 47, .int (nI q), .int 3] (hG σ sr ln Lc μ) (some (.int (μ 10 q))) (hG σ sr ln Lc μ) := by
  refine am_XR (d := d + 2) (C := cd_X12_lineTold) (L := [some (.ref 47), some (.int (nI q)), some (.int 3)]) rfl rfl rfl rfl ?_
  refine am_g 2 2 [some (.ref 47), some (.int (nI q)), some (.int 3)] [.int (nI q), .ref 47] (hG σ sr ln Lc μ) rfl ?_
  refine am_call (y := 152) (vs := [.ref 47, .int (nI q)]) (rest := []) (v := (some (.int 1))) (h1 := (hG σ sr ln Lc μ)) rfl rfl rfl (sp_X12_isLine (σ := σ) (μ := μ) d _ hN (by omega) (am_in_of_nI hq (by omega))) ?_
  refine am_g 6 98 [some (.ref 47), some (.int (nI q)), some (.int 3)] [.int (nI q), .ref 56] (hG σ sr ln Lc μ) rfl ?_
  refine am_ialdR (n := 40) (f := (μ 10)) (k := q) rfl rfl (rfl) (by omega) (by decide) ?_
  exact am_ret2 rfl rfl rfl rfl rfl
theorem sp_X12_lineTold_4 (d : Nat) {N : Nat} (hN : μ 17 0 = nI N) (hN40 : N ≤ 40) (q : Nat) (hq : q < N) : am_X xs LL (d + 3) 163 [.ref 47, .int (nI q), .int 4] (hG σ sr ln Lc μ) (some (.int (μ 11 q))) (hG σ sr ln Lc μ) := by
  refine am_XR (d := d + 2) (C := cd_X12_lineTold) (L := [some (.ref 47), some (.int (nI q)), some (.int 4)]) rfl rfl rfl rfl ?_
  refine am_g 2 2 [some (.ref 47), some (.int (nI q)), some (.int 4)] [.int (nI q), .ref 47] (hG σ sr ln Lc μ) rfl ?_
  refine am_call (y := 152) (vs := [.ref 47, .int (nI q)]) (rest := []) (v := (some (.int 1))) (h1 := (hG σ sr ln Lc μ)) rfl rfl rfl (sp_X12_isLine (σ := σ) (μ := μ) d _ hN (by omega) (am_in_of_nI hq (by omega))) ?_
  refine am_g 6 105 [some (.ref 47), some (.int (nI q)), some (.int 4)] [.int (nI q), .ref 57] (hG σ sr ln Lc μ) rfl ?_
  refine am_ialdR (n := 40) (f := (μ 11)) (k := q) rfl rfl (rfl) (by omega) (by decide) ?_
  exact am_ret2 rfl rfl rfl rfl rfl
theorem sp_X12_lineTold_5 (d : Nat) {N : Nat} (hN : μ 17 0 = nI N) (hN40 : N ≤ 40) (q : Nat) (hq : q < N) : am_X xs LL (d + 3) 163 [.ref 47, .int (nI q), .int 5] (hG σ sr ln Lc μ) (some (.int (μ 12 q))) (hG σ sr ln Lc μ) := by
  refine am_XR (d := d + 2) (C := cd_X12_lineTold) (L := [some (.ref 47), some (.int (nI q)), some (.int 5)]) rfl rfl rfl rfl ?_
  refine am_g 2 2 [some (.ref 47), some (.int (nI q)), some (.int 5)] [.int (nI q), .ref 47] (hG σ sr ln Lc μ) rfl ?_
  refine am_call (y := 152) (vs := [.ref 47, .int (nI q)]) (rest := []) (v := (some (.int 1))) (h1 := (hG σ sr ln Lc μ)) rfl rfl rfl (sp_X12_isLine (σ := σ) (μ := μ) d _ hN (by omega) (am_in_of_nI hq (by omega))) ?_
  refine am_g 6 112 [some (.ref 47), some (.int (nI q)), some (.int 5)] [.int (nI q), .ref 58] (hG σ sr ln Lc μ) rfl ?_
  refine am_ialdR (n := 40) (f := (μ 12)) (k := q) rfl rfl (rfl) (by omega) (by decide) ?_
  exact am_ret2 rfl rfl rfl rfl rfl
theorem sp_X12_lineTold_6 (d : Nat) {N : Nat} (hN : μ 17 0 = nI N) (hN40 : N ≤ 40) (q : Nat) (hq : q < N) : am_X xs LL (d + 3) 163 [.ref 47, .int (nI q), .int 6] (hG σ sr ln Lc μ) (some (.int (μ 13 q))) (hG σ sr ln Lc μ) := by
  refine am_XR (d := d + 2) (C := cd_X12_lineTold) (L := [some (.ref 47), some (.int (nI q)), some (.int 6)]) rfl rfl rfl rfl ?_
  refine am_g 2 2 [some (.ref 47), some (.int (nI q)), some (.int 6)] [.int (nI q), .ref 47] (hG σ sr ln Lc μ) rfl ?_
  refine am_call (y := 152) (vs := [.ref 47, .int (nI q)]) (rest := []) (v := (some (.int 1))) (h1 := (hG σ sr ln Lc μ)) rfl rfl rfl (sp_X12_isLine (σ := σ) (μ := μ) d _ hN (by omega) (am_in_of_nI hq (by omega))) ?_
  refine am_g 6 119 [some (.ref 47), some (.int (nI q)), some (.int 6)] [.int (nI q), .ref 59] (hG σ sr ln Lc μ) rfl ?_
  refine am_ialdR (n := 40) (f := (μ 13)) (k := q) rfl rfl (rfl) (by omega) (by decide) ?_
  exact am_ret2 rfl rfl rfl rfl rfl
theorem sp_X12_lineTold_8 (d : Nat) {N : Nat} (hN : μ 17 0 = nI N) (hN40 : N ≤ 40) (q : Nat) (hq : q < N) : am_X xs LL (d + 3) 163 [.ref 47, .int (nI q), .int 8] (hG σ sr ln Lc μ) (some (.int (μ 15 q))) (hG σ sr ln Lc μ) := by
  refine am_XR (d := d + 2) (C := cd_X12_lineTold) (L := [some (.ref 47), some (.int (nI q)), some (.int 8)]) rfl rfl rfl rfl ?_
  refine am_g 2 2 [some (.ref 47), some (.int (nI q)), some (.int 8)] [.int (nI q), .ref 47] (hG σ sr ln Lc μ) rfl ?_
  refine am_call (y := 152) (vs := [.ref 47, .int (nI q)]) (rest := []) (v := (some (.int 1))) (h1 := (hG σ sr ln Lc μ)) rfl rfl rfl (sp_X12_isLine (σ := σ) (μ := μ) d _ hN (by omega) (am_in_of_nI hq (by omega))) ?_
  refine am_g 6 141 [some (.ref 47), some (.int (nI q)), some (.int 8)] [.int (nI q), .ref 61] (hG σ sr ln Lc μ) rfl ?_
  refine am_ialdR (n := 40) (f := (μ 15)) (k := q) rfl rfl (rfl) (by omega) (by decide) ?_
  exact am_ret2 rfl rfl rfl rfl rfl
theorem sp_X12_lineTold_10 (d : Nat) {N : Nat} (hN : μ 17 0 = nI N) (hN40 : N ≤ 40) (q : Nat) (hq : q < N) : am_X xs LL (d + 3) 163 [.ref 47, .int (nI q), .int 10] (hG σ sr ln Lc μ) (some (.int (μ 16 q))) (hG σ sr ln Lc μ) := by
  refine am_XR (d := d + 2) (C := cd_X12_lineTold) (L := [some (.ref 47), some (.int (nI q)), some (.int 10)]) rfl rfl rfl rfl ?_
  refine am_g 2 2 [some (.ref 47), some (.int (nI q)), some (.int 10)] [.int (nI q), .ref 47] (hG σ sr ln Lc μ) rfl ?_
  refine am_call (y := 152) (vs := [.ref 47, .int (nI q)]) (rest := []) (v := (some (.int 1))) (h1 := (hG σ sr ln Lc μ)) rfl rfl rfl (sp_X12_isLine (σ := σ) (μ := μ) d _ hN (by omega) (am_in_of_nI hq (by omega))) ?_
  refine am_g 6 158 [some (.ref 47), some (.int (nI q)), some (.int 10)] [.int (nI q), .ref 62] (hG σ sr ln Lc μ) rfl ?_
  refine am_ialdR (n := 40) (f := (μ 16)) (k := q) rfl rfl (rfl) (by omega) (by decide) ?_
  exact am_ret2 rfl rfl rfl rfl rfl
theorem sp_X12_in__ok (d : Nat) {N : Nat} (hN : μ 17 0 = nI N) (hN40 : N ≤ 40) (q : Nat) (v : Int32) (hq : q < N) (hv : am_in1 v 6 = true) : am_X xs LL (d + 3) 165 [.ref 47, .int (nI q), .int v] (hG σ sr ln Lc μ) (some (.int (μ 15 q))) (hG σ sr ln Lc (am_up μ 15 (upd (μ 15) q v))) := by
  refine am_XR (d := d + 2) (C := cd_X12_in_) (L := [some (.ref 47), some (.int (nI q)), some (.int v), none]) rfl rfl rfl rfl ?_
  refine am_g 2 2 [some (.ref 47), some (.int (nI q)), some (.int v), none] [.int (nI q), .ref 47] (hG σ sr ln Lc μ) rfl ?_
  refine am_call (y := 152) (vs := [.ref 47, .int (nI q)]) (rest := []) (v := (some (.int 1))) (h1 := (hG σ sr ln Lc μ)) rfl rfl rfl (sp_X12_isLine (σ := σ) (μ := μ) d _ hN (by omega) (am_in_of_nI hq (by omega))) ?_
  refine am_g 5 16 [some (.ref 47), some (.int (nI q)), some (.int v), none] [.long 5, .long (-1), .long (v.toInt64)] (hG σ sr ln Lc μ) rfl ?_
  refine am_call (y := 140) (vs := [.long (v.toInt64), .long (-1), .long 5]) (rest := []) (v := (some (.int 1))) (h1 := (hG σ sr ln Lc μ)) rfl rfl rfl (sp_X12_in_b (d + 1) _ _ _ _ ((am_in1c (by decide)).trans hv)) ?_
  refine am_g 4 30 [some (.ref 47), some (.int (nI q)), some (.int v), none] [.int (nI q), .ref 61] (hG σ sr ln Lc μ) rfl ?_
  refine am_ialdR (n := 40) (f := (μ 15)) (k := q) rfl rfl (rfl) (by omega) (by decide) ?_
  refine am_g 5 38 [some (.ref 47), some (.int (nI q)), some (.int v), some (.int (μ 15 q))] [.int v, .int (nI q), .ref 61] (hG σ sr ln Lc μ) rfl ?_
  refine am_iastR (n := 40) (f := (μ 15)) (k := q) (h1 := (hG σ sr ln Lc (am_up μ 15 (upd (μ 15) q v)))) rfl rfl (rfl) (by omega) (by decide) rfl ?_
  refine am_g 1 40 [some (.ref 47), some (.int (nI q)), some (.int v), some (.int (μ 15 q))] [.int (μ 15 q)] (hG σ sr ln Lc (am_up μ 15 (upd (μ 15) q v))) rfl ?_
  exact am_ret2 rfl rfl rfl rfl rfl
theorem sp_X12_in__bad (d : Nat) {N : Nat} (hN : μ 17 0 = nI N) (hN40 : N ≤ 40) (q v : Int32) (hbad : (am_in q N && am_in1 v 6) = false) : am_X xs LL (d + 3) 165 [.ref 47, .int q, .int v] (hG σ sr ln Lc μ) (some (.int (-5))) (hG σ sr ln Lc μ) := by
  refine am_XR (d := d + 2) (C := cd_X12_in_) (L := [some (.ref 47), some (.int q), some (.int v), none]) rfl rfl rfl rfl ?_
  refine am_g 2 2 [some (.ref 47), some (.int q), some (.int v), none] [.int q, .ref 47] (hG σ sr ln Lc μ) rfl ?_
  cases e1 : am_in q N with
  | false =>
    refine am_call (y := 152) (vs := [.ref 47, .int q]) (rest := []) (v := (some (.int 0))) (h1 := (hG σ sr ln Lc μ)) rfl rfl rfl (sp_X12_isLine (σ := σ) (μ := μ) d _ hN (by omega) e1) ?_
    refine am_g 2 24 [some (.ref 47), some (.int q), some (.int v), none] [.int (-5)] (hG σ sr ln Lc μ) rfl ?_
    exact am_ret2 rfl rfl rfl rfl rfl
  | true =>
    refine am_call (y := 152) (vs := [.ref 47, .int q]) (rest := []) (v := (some (.int 1))) (h1 := (hG σ sr ln Lc μ)) rfl rfl rfl (sp_X12_isLine (σ := σ) (μ := μ) d _ hN (by omega) e1) ?_
    refine am_g 5 16 [some (.ref 47), some (.int q), some (.int v), none] [.long 5, .long (-1), .long (v.toInt64)] (hG σ sr ln Lc μ) rfl ?_
    cases e2 : decide ((-1) ≤ (v.toInt64) ∧ (v.toInt64) ≤ 5) with
    | false =>
      refine am_call (y := 140) (vs := [.long (v.toInt64), .long (-1), .long 5]) (rest := []) (v := (some (.int 0))) (h1 := (hG σ sr ln Lc μ)) rfl rfl rfl (sp_X12_in_b (d + 1) _ _ _ _ e2) ?_
      refine am_g 2 24 [some (.ref 47), some (.int q), some (.int v), none] [.int (-5)] (hG σ sr ln Lc μ) rfl ?_
      exact am_ret2 rfl rfl rfl rfl rfl
    | true =>
      refine am_call (y := 140) (vs := [.long (v.toInt64), .long (-1), .long 5]) (rest := []) (v := (some (.int 1))) (h1 := (hG σ sr ln Lc μ)) rfl rfl rfl (sp_X12_in_b (d + 1) _ _ _ _ e2) ?_
      refine am_g 1 25 [some (.ref 47), some (.int q), some (.int v), none] [] (hG σ sr ln Lc μ) rfl ?_
      rw [am_in1c (n := 6) (by decide)] at e2
      rw [e1, e2] at hbad
      cases hbad
theorem sp_X12_turn_bad (d : Nat) {N : Nat} (hN : μ 17 0 = nI N) (hN40 : N ≤ 40) (q v : Int32) (hbad : (am_in q N && am_in v 2) = false) : am_X xs LL (d + 3) 164 [.ref 47, .int q, .int v] (hG σ sr ln Lc μ) (some (.int (-2))) (hG σ sr ln Lc μ) := by
  refine am_XR (d := d + 2) (C := cd_X12_turn) (L := [some (.ref 47), some (.int q), some (.int v), none]) rfl rfl rfl rfl ?_
  refine am_g 2 2 [some (.ref 47), some (.int q), some (.int v), none] [.int q, .ref 47] (hG σ sr ln Lc μ) rfl ?_
  cases e1 : am_in q N with
  | false =>
    refine am_call (y := 152) (vs := [.ref 47, .int q]) (rest := []) (v := (some (.int 0))) (h1 := (hG σ sr ln Lc μ)) rfl rfl rfl (sp_X12_isLine (σ := σ) (μ := μ) d _ hN (by omega) e1) ?_
    refine am_g 2 20 [some (.ref 47), some (.int q), some (.int v), none] [.int (-2)] (hG σ sr ln Lc μ) rfl ?_
    exact am_ret2 rfl rfl rfl rfl rfl
  | true =>
    refine am_call (y := 152) (vs := [.ref 47, .int q]) (rest := []) (v := (some (.int 1))) (h1 := (hG σ sr ln Lc μ)) rfl rfl rfl (sp_X12_isLine (σ := σ) (μ := μ) d _ hN (by omega) e1) ?_
    refine am_g 5 12 [some (.ref 47), some (.int q), some (.int v), none] [.long 1, .long 0, .long (v.toInt64)] (hG σ sr ln Lc μ) rfl ?_
    cases e2 : decide (0 ≤ (v.toInt64) ∧ (v.toInt64) ≤ 1) with
    | false =>
      refine am_call (y := 140) (vs := [.long (v.toInt64), .long 0, .long 1]) (rest := []) (v := (some (.int 0))) (h1 := (hG σ sr ln Lc μ)) rfl rfl rfl (sp_X12_in_b (d + 1) _ _ _ _ e2) ?_
      refine am_g 2 20 [some (.ref 47), some (.int q), some (.int v), none] [.int (-2)] (hG σ sr ln Lc μ) rfl ?_
      exact am_ret2 rfl rfl rfl rfl rfl
    | true =>
      refine am_call (y := 140) (vs := [.long (v.toInt64), .long 0, .long 1]) (rest := []) (v := (some (.int 1))) (h1 := (hG σ sr ln Lc μ)) rfl rfl rfl (sp_X12_in_b (d + 1) _ _ _ _ e2) ?_
      refine am_g 1 21 [some (.ref 47), some (.int q), some (.int v), none] [] (hG σ sr ln Lc μ) rfl ?_
      rw [am_in64c (n := 2) (by decide)] at e2
      rw [e1, e2] at hbad
      cases hbad
theorem sp_X12_lineTold_7 (d : Nat) {N : Nat} (hN : μ 17 0 = nI N) (hN40 : N ≤ 40) (q : Nat) (hq : q < N) (hz : μ 14 q = 0 ∨ μ 14 q = 1) : am_X xs LL (d + 3) 163 [.ref 47, .int (nI q), .int 7] (hG σ sr ln Lc μ) (some (.int (μ 14 q))) (hG σ sr ln Lc μ) := by
  refine am_XR (d := d + 2) (C := cd_X12_lineTold) (L := [some (.ref 47), some (.int (nI q)), some (.int 7)]) rfl rfl rfl rfl ?_
  refine am_g 2 2 [some (.ref 47), some (.int (nI q)), some (.int 7)] [.int (nI q), .ref 47] (hG σ sr ln Lc μ) rfl ?_
  refine am_call (y := 152) (vs := [.ref 47, .int (nI q)]) (rest := []) (v := (some (.int 1))) (h1 := (hG σ sr ln Lc μ)) rfl rfl rfl (sp_X12_isLine (σ := σ) (μ := μ) d _ hN (by omega) (am_in_of_nI hq (by omega))) ?_
  refine am_g 6 126 [some (.ref 47), some (.int (nI q)), some (.int 7)] [.int (nI q), .ref 60] (hG σ sr ln Lc μ) rfl ?_
  refine am_baldR (n := 40) (f := (μ 14)) (k := q) rfl rfl (rfl) (by omega) (by decide) ?_
  refine am_g 1 (if (μ 14 q) = 0 then 134 else 130) [some (.ref 47), some (.int (nI q)), some (.int 7)] [] (hG σ sr ln Lc μ) rfl (am_brR (fun c1 => ?_) (fun c1 => ?_))
  · skip
    refine am_g 1 135 [some (.ref 47), some (.int (nI q)), some (.int 7)] [.int 0] (hG σ sr ln Lc μ) rfl ?_
    exact am_ret2 rfl rfl rfl (by rw [c1]) rfl
  · skip
    refine am_g 2 135 [some (.ref 47), some (.int (nI q)), some (.int 7)] [.int 1] (hG σ sr ln Lc μ) rfl ?_
    exact am_ret2 rfl rfl rfl (by rw [hz.resolve_left c1]) rfl
theorem sp_X12_turn_ok0 (d : Nat) {N : Nat} (hN : μ 17 0 = nI N) (hN40 : N ≤ 40) (q : Nat) (hq : q < N) (hz : μ 14 q = 0 ∨ μ 14 q = 1) : am_X xs LL (d + 3) 164 [.ref 47, .int (nI q), .int 0] (hG σ sr ln Lc μ) (some (.int (μ 14 q))) (hG σ sr ln Lc (am_up μ 14 (upd (μ 14) q 0))) := by
  refine am_XR (d := d + 2) (C := cd_X12_turn) (L := [some (.ref 47), some (.int (nI q)), some (.int 0), none]) rfl rfl rfl rfl ?_
  refine am_g 2 2 [some (.ref 47), some (.int (nI q)), some (.int 0), none] [.int (nI q), .ref 47] (hG σ sr ln Lc μ) rfl ?_
  refine am_call (y := 152) (vs := [.ref 47, .int (nI q)]) (rest := []) (v := (some (.int 1))) (h1 := (hG σ sr ln Lc μ)) rfl rfl rfl (sp_X12_isLine (σ := σ) (μ := μ) d _ hN (by omega) (am_in_of_nI hq (by omega))) ?_
  refine am_g 5 12 [some (.ref 47), some (.int (nI q)), some (.int 0), none] [.long 1, .long 0, .long ((0 : Int32).toInt64)] (hG σ sr ln Lc μ) rfl ?_
  refine am_call (y := 140) (vs := [.long ((0 : Int32).toInt64), .long 0, .long 1]) (rest := []) (v := (some (.int 1))) (h1 := (hG σ sr ln Lc μ)) rfl rfl rfl (sp_X12_in_b (d + 1) _ _ _ _ (show decide ((0 : Int64) ≤ (0 : Int32).toInt64 ∧ (0 : Int32).toInt64 ≤ 1) = true by decide)) ?_
  refine am_g 4 26 [some (.ref 47), some (.int (nI q)), some (.int 0), none] [.int (nI q), .ref 60] (hG σ sr ln Lc μ) rfl ?_
  refine am_baldR (n := 40) (f := (μ 14)) (k := q) rfl rfl (rfl) (by omega) (by decide) ?_
  refine am_g 1 (if (μ 14 q) = 0 then 34 else 30) [some (.ref 47), some (.int (nI q)), some (.int 0), none] [] (hG σ sr ln Lc μ) rfl (am_brR (fun c1 => ?_) (fun c1 => ?_))
  · skip
    refine am_g 9 51 [some (.ref 47), some (.int (nI q)), some (.int 0), some (.int 0)] [.int 0, .int (nI q), .ref 60] (hG σ sr ln Lc μ) rfl ?_
    refine am_bastR (n := 40) (f := (μ 14)) (k := q) (h1 := (hG σ sr ln Lc (am_up μ 14 (upd (μ 14) q (vp_nar .boolean 0))))) rfl rfl (rfl) (by omega) (by decide) rfl ?_
    refine am_g 1 53 [some (.ref 47), some (.int (nI q)), some (.int 0), some (.int 0)] [.int 0] (hG σ sr ln Lc (am_up μ 14 (upd (μ 14) q (vp_nar .boolean 0)))) rfl ?_
    exact am_ret2 rfl rfl rfl (by rw [c1]) rfl
  · skip
    refine am_g 10 51 [some (.ref 47), some (.int (nI q)), some (.int 0), some (.int 1)] [.int 0, .int (nI q), .ref 60] (hG σ sr ln Lc μ) rfl ?_
    refine am_bastR (n := 40) (f := (μ 14)) (k := q) (h1 := (hG σ sr ln Lc (am_up μ 14 (upd (μ 14) q (vp_nar .boolean 0))))) rfl rfl (rfl) (by omega) (by decide) rfl ?_
    refine am_g 1 53 [some (.ref 47), some (.int (nI q)), some (.int 0), some (.int 1)] [.int 1] (hG σ sr ln Lc (am_up μ 14 (upd (μ 14) q (vp_nar .boolean 0)))) rfl ?_
    exact am_ret2 rfl rfl rfl (by rw [hz.resolve_left c1]) rfl
theorem sp_X12_turn_ok1 (d : Nat) {N : Nat} (hN : μ 17 0 = nI N) (hN40 : N ≤ 40) (q : Nat) (hq : q < N) (hz : μ 14 q = 0 ∨ μ 14 q = 1) : am_X xs LL (d + 3) 164 [.ref 47, .int (nI q), .int 1] (hG σ sr ln Lc μ) (some (.int (μ 14 q))) (hG σ sr ln Lc (am_up μ 14 (upd (μ 14) q 1))) := by
  refine am_XR (d := d + 2) (C := cd_X12_turn) (L := [some (.ref 47), some (.int (nI q)), some (.int 1), none]) rfl rfl rfl rfl ?_
  refine am_g 2 2 [some (.ref 47), some (.int (nI q)), some (.int 1), none] [.int (nI q), .ref 47] (hG σ sr ln Lc μ) rfl ?_
  refine am_call (y := 152) (vs := [.ref 47, .int (nI q)]) (rest := []) (v := (some (.int 1))) (h1 := (hG σ sr ln Lc μ)) rfl rfl rfl (sp_X12_isLine (σ := σ) (μ := μ) d _ hN (by omega) (am_in_of_nI hq (by omega))) ?_
  refine am_g 5 12 [some (.ref 47), some (.int (nI q)), some (.int 1), none] [.long 1, .long 0, .long ((1 : Int32).toInt64)] (hG σ sr ln Lc μ) rfl ?_
  refine am_call (y := 140) (vs := [.long ((1 : Int32).toInt64), .long 0, .long 1]) (rest := []) (v := (some (.int 1))) (h1 := (hG σ sr ln Lc μ)) rfl rfl rfl (sp_X12_in_b (d + 1) _ _ _ _ (show decide ((0 : Int64) ≤ (1 : Int32).toInt64 ∧ (1 : Int32).toInt64 ≤ 1) = true by decide)) ?_
  refine am_g 4 26 [some (.ref 47), some (.int (nI q)), some (.int 1), none] [.int (nI q), .ref 60] (hG σ sr ln Lc μ) rfl ?_
  refine am_baldR (n := 40) (f := (μ 14)) (k := q) rfl rfl (rfl) (by omega) (by decide) ?_
  refine am_g 1 (if (μ 14 q) = 0 then 34 else 30) [some (.ref 47), some (.int (nI q)), some (.int 1), none] [] (hG σ sr ln Lc μ) rfl (am_brR (fun c1 => ?_) (fun c1 => ?_))
  · skip
    refine am_g 10 51 [some (.ref 47), some (.int (nI q)), some (.int 1), some (.int 0)] [.int 1, .int (nI q), .ref 60] (hG σ sr ln Lc μ) rfl ?_
    refine am_bastR (n := 40) (f := (μ 14)) (k := q) (h1 := (hG σ sr ln Lc (am_up μ 14 (upd (μ 14) q (vp_nar .boolean 1))))) rfl rfl (rfl) (by omega) (by decide) rfl ?_
    refine am_g 1 53 [some (.ref 47), some (.int (nI q)), some (.int 1), some (.int 0)] [.int 0] (hG σ sr ln Lc (am_up μ 14 (upd (μ 14) q (vp_nar .boolean 1)))) rfl ?_
    exact am_ret2 rfl rfl rfl (by rw [c1]) rfl
  · skip
    refine am_g 11 51 [some (.ref 47), some (.int (nI q)), some (.int 1), some (.int 1)] [.int 1, .int (nI q), .ref 60] (hG σ sr ln Lc μ) rfl ?_
    refine am_bastR (n := 40) (f := (μ 14)) (k := q) (h1 := (hG σ sr ln Lc (am_up μ 14 (upd (μ 14) q (vp_nar .boolean 1))))) rfl rfl (rfl) (by omega) (by decide) rfl ?_
    refine am_g 1 53 [some (.ref 47), some (.int (nI q)), some (.int 1), some (.int 1)] [.int 1] (hG σ sr ln Lc (am_up μ 14 (upd (μ 14) q (vp_nar .boolean 1)))) rfl ?_
    exact am_ret2 rfl rfl rfl (by rw [hz.resolve_left c1]) rfl
end ML2
