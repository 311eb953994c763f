/-! taken for a sort -/
section TK
variable {xs : Nat → Int32} {LL : Nat} {σ μ : Nat → Nat → Int32} {sr : Nat → Nat} {ln : Nat → Nat → Int32} {Lc : Nat}
theorem sp_X11_isOfSort_0 (d : Nat) (h : am_H) (r : Nat) : am_X xs LL (d + 1) 139 [.ref r, .int 0] h (some (.int 1)) h := by
  refine am_XR (d := d + 0) (C := cd_X11_isOfSort) (L := [some (.ref r), some (.int 0)]) rfl rfl rfl rfl ?_
  refine am_g 3 62 [some (.ref r), some (.int 0)] [.int 1] h rfl ?_
  exact am_ret2 rfl rfl rfl rfl rfl
theorem sp_X11_isOfSort_1 (d : Nat) (q : Nat) (hq : q < Lc) (hL : Lc ≤ 40) (hsr : ∀ i, i < Lc → sr i < 6) : am_X xs LL (d + 1) 139 [.ref (75 + q), .int 1] (hG σ sr ln Lc μ) (some (.int (am_b2 ([false, true, false, false, false, false].getD (sr q) false)))) (hG σ sr ln Lc μ) := by
  refine am_XR (d := d + 0) (C := cd_X11_isOfSort) (L := [some (.ref (75 + q)), some (.int 1)]) rfl rfl rfl rfl ?_
  refine am_g 3 37 [some (.ref (75 + q)), some (.int 1)] [.ref (75 + q)] (hG σ sr ln Lc μ) rfl ?_
  refine am_linsR (i := q) (b := [false, true, false, false, false, false].getD (sr q) false) rfl hq (am_lk (f := fun s => bif [false, true, false, false, false, false].getD s false then 1 else 0) (by decide) (hsr _ hq)) ?_
  cases e1 : [false, true, false, false, false, false].getD (sr q) false with
  | false =>
    exact am_ret2 rfl rfl rfl rfl rfl
  | true =>
    exact am_ret2 rfl rfl rfl rfl rfl
theorem sp_X11_isOfSort_2 (d : Nat) (q : Nat) (hq : q < Lc) (hL : Lc ≤ 40) (hsr : ∀ i, i < Lc → sr i < 6) : am_X xs LL (d + 1) 139 [.ref (75 + q), .int 2] (hG σ sr ln Lc μ) (some (.int (am_b2 ([false, false, true, true, true, false].getD (sr q) false)))) (hG σ sr ln Lc μ) := by
  refine am_XR (d := d + 0) (C := cd_X11_isOfSort) (L := [some (.ref (75 + q)), some (.int 2)]) rfl rfl rfl rfl ?_
  refine am_g 3 42 [some (.ref (75 + q)), some (.int 2)] [.ref (75 + q)] (hG σ sr ln Lc μ) rfl ?_
  refine am_linsR (i := q) (b := [false, false, true, true, true, false].getD (sr q) false) rfl hq (am_lk (f := fun s => bif [false, false, true, true, true, false].getD s false then 1 else 0) (by decide) (hsr _ hq)) ?_
  cases e1 : [false, false, true, true, true, false].getD (sr q) false with
  | false =>
    exact am_ret2 rfl rfl rfl rfl rfl
  | true =>
    exact am_ret2 rfl rfl rfl rfl rfl
theorem sp_X11_isOfSort_3 (d : Nat) (q : Nat) (hq : q < Lc) (hL : Lc ≤ 40) (hsr : ∀ i, i < Lc → sr i < 6) : am_X xs LL (d + 1) 139 [.ref (75 + q), .int 3] (hG σ sr ln Lc μ) (some (.int (am_b2 ([false, false, false, true, false, false].getD (sr q) false)))) (hG σ sr ln Lc μ) := by
  refine am_XR (d := d + 0) (C := cd_X11_isOfSort) (L := [some (.ref (75 + q)), some (.int 3)]) rfl rfl rfl rfl ?_
  refine am_g 3 47 [some (.ref (75 + q)), some (.int 3)] [.ref (75 + q)] (hG σ sr ln Lc μ) rfl ?_
  refine am_linsR (i := q) (b := [false, false, false, true, false, false].getD (sr q) false) rfl hq (am_lk (f := fun s => bif [false, false, false, true, false, false].getD s false then 1 else 0) (by decide) (hsr _ hq)) ?_
  cases e1 : [false, false, false, true, false, false].getD (sr q) false with
  | false =>
    exact am_ret2 rfl rfl rfl rfl rfl
  | true =>
    exact am_ret2 rfl rfl rfl rfl rfl
theorem sp_X11_isOfSort_4 (d : Nat) (q : Nat) (hq : q < Lc) (hL : Lc ≤ 40) (hsr : ∀ i, i < Lc → sr i < 6) : am_X xs LL (d + 1) 139 [.ref (75 + q), .int 4] (hG σ sr ln Lc μ) (some (.int (am_b2 ([false, false, false, false, true, false].getD (sr q) false)))) (hG σ sr ln Lc μ) := by
  refine am_XR (d := d + 0) (C := cd_X11_isOfSort) (L := [some (.ref (75 + q)), some (.int 4)]) rfl rfl rfl rfl ?_
  refine am_g 3 52 [some (.ref (75 + q)), some (.int 4)] [.ref (75 + q)] (hG σ sr ln Lc μ) rfl ?_
  refine am_linsR (i := q) (b := [false, false, false, false, true, false].getD (sr q) false) rfl hq (am_lk (f := fun s => bif [false, false, false, false, true, false].getD s false then 1 else 0) (by decide) (hsr _ hq)) ?_
  cases e1 : [false, false, false, false, true, false].getD (sr q) false with
  | false =>
    exact am_ret2 rfl rfl rfl rfl rfl
  | true =>
    exact am_ret2 rfl rfl rfl rfl rfl
theorem sp_X11_isOfSort_5 (d : Nat) (q : Nat) (hq : q < Lc) (hL : Lc ≤ 40) (hsr : ∀ i, i < Lc → sr i < 6) : am_X xs LL (d + 1) 139 [.ref (75 + q), .int 5] (hG σ sr ln Lc μ) (some (.int (am_b2 ([false, false, false, false, false, true].getD (sr q) false)))) (hG σ sr ln Lc μ) := by
  refine am_XR (d := d + 0) (C := cd_X11_isOfSort) (L := [some (.ref (75 + q)), some (.int 5)]) rfl rfl rfl rfl ?_
  refine am_g 3 57 [some (.ref (75 + q)), some (.int 5)] [.ref (75 + q)] (hG σ sr ln Lc μ) rfl ?_
  refine am_linsR (i := q) (b := [false, false, false, false, false, true].getD (sr q) false) rfl hq (am_lk (f := fun s => bif [false, false, false, false, false, true].getD s false then 1 else 0) (by decide) (hsr _ hq)) ?_
  cases e1 : [false, false, false, false, false, true].getD (sr q) false with
  | false =>
    exact am_ret2 rfl rfl rfl rfl rfl
  | true =>
    exact am_ret2 rfl rfl rfl rfl rfl
theorem sp_X11_isOfSort_1b (d : Nat) (q : Nat) (hq : q < Lc) (hL : Lc ≤ 40) (hsr : ∀ i, i < Lc → sr i < 6) {b : Bool} (eb : [false, true, false, false, false, false].getD (sr q) false = b) : am_X xs LL (d + 1) 139 [.ref (75 + q), .int 1] (hG σ sr ln Lc μ) (some (.int (am_b2 b))) (hG σ sr ln Lc μ) := by
  subst eb
  exact sp_X11_isOfSort_1 d q hq hL hsr
theorem sp_X11_isOfSort_2b (d : Nat) (q : Nat) (hq : q < Lc) (hL : Lc ≤ 40) (hsr : ∀ i, i < Lc → sr i < 6) {b : Bool} (eb : [false, false, true, true, true, false].getD (sr q) false = b) : am_X xs LL (d + 1) 139 [.ref (75 + q), .int 2] (hG σ sr ln Lc μ) (some (.int (am_b2 b))) (hG σ sr ln Lc μ) := by
  subst eb
  exact sp_X11_isOfSort_2 d q hq hL hsr
theorem sp_X11_isOfSort_3b (d : Nat) (q : Nat) (hq : q < Lc) (hL : Lc ≤ 40) (hsr : ∀ i, i < Lc → sr i < 6) {b : Bool} (eb : [false, false, false, true, false, false].getD (sr q) false = b) : am_X xs LL (d + 1) 139 [.ref (75 + q), .int 3] (hG σ sr ln Lc μ) (some (.int (am_b2 b))) (hG σ sr ln Lc μ) := by
  subst eb
  exact sp_X11_isOfSort_3 d q hq hL hsr
theorem sp_X11_isOfSort_4b (d : Nat) (q : Nat) (hq : q < Lc) (hL : Lc ≤ 40) (hsr : ∀ i, i < Lc → sr i < 6) {b : Bool} (eb : [false, false, false, false, true, false].getD (sr q) false = b) : am_X xs LL (d + 1) 139 [.ref (75 + q), .int 4] (hG σ sr ln Lc μ) (some (.int (am_b2 b))) (hG σ sr ln Lc μ) := by
  subst eb
  exact sp_X11_isOfSort_4 d q hq hL hsr
theorem sp_X11_isOfSort_5b (d : Nat) (q : Nat) (hq : q < Lc) (hL : Lc ≤ 40) (hsr : ∀ i, i < Lc → sr i < 6) {b : Bool} (eb : [false, false, false, false, false, true].getD (sr q) false = b) : am_X xs LL (d + 1) 139 [.ref (75 + q), .int 5] (hG σ sr ln Lc μ) (some (.int (am_b2 b))) (hG σ sr ln Lc μ) := by
  subst eb
  exact sp_X11_isOfSort_5 d q hq hL hsr
theorem sp_X11_taken_0 (d : Nat) (q : Nat) (hq : q < Lc) (hL : Lc ≤ 40) (hsr : ∀ i, i < Lc → sr i < 6) : am_X xs LL (d + 2) 121 [.ref 14, .int (nI q), .int 0] (hG σ sr ln Lc μ) (some (.int (ln q 0))) (hG σ sr ln Lc μ) := by
  refine am_XR (d := d + 1) (C := cd_X11_taken) (L := [some (.ref 14), some (.int (nI q)), some (.int 0), none]) rfl rfl rfl rfl ?_
  refine am_g 3 3 [some (.ref 14), some (.int (nI q)), some (.int 0), none] [.int 5, .int 0, .int 0] (hG σ sr ln Lc μ) rfl ?_
  refine am_call (y := 122) (vs := [.int 0, .int 0, .int 5]) (rest := []) (v := (some (.int 1))) (h1 := (hG σ sr ln Lc μ)) rfl rfl rfl (sp_X11_isWithin_b d _ _ _ _ (show decide ((0 : Int32) ≤ 0 ∧ (0 : Int32) ≤ 5) = true from by decide)) ?_
  refine am_g 3 14 [some (.ref 14), some (.int (nI q)), some (.int 0), none] [.int (nI q), .ref 14] (hG σ sr ln Lc μ) rfl ?_
  refine am_call (y := 128) (vs := [.ref 14, .int (nI q)]) (rest := []) (v := (some (.ref (75 + q)))) (h1 := (hG σ sr ln Lc μ)) rfl rfl rfl (sp_X11_lineAt_ok (σ := σ) (μ := μ) d q hq hL) ?_
  refine am_g 2 19 [some (.ref 14), some (.int (nI q)), some (.int 0), some (.ref (75 + q))] [.ref (75 + q)] (hG σ sr ln Lc μ) rfl ?_
  refine am_lnn2R rfl _ ?_
  refine am_g 2 27 [some (.ref 14), some (.int (nI q)), some (.int 0), some (.ref (75 + q))] [.int 0, .ref (75 + q)] (hG σ sr ln Lc μ) rfl ?_
  refine am_call (y := 139) (vs := [.ref (75 + q), .int 0]) (rest := []) (v := (some (.int 1))) (h1 := (hG σ sr ln Lc μ)) rfl rfl rfl (sp_X11_isOfSort_0 d _ _) ?_
  refine am_g 2 34 [some (.ref 14), some (.int (nI q)), some (.int 0), some (.ref (75 + q))] [.ref (75 + q)] (hG σ sr ln Lc μ) rfl ?_
  refine am_lgetR (i := q) (k := 0) rfl hq (by decide) (am_lkx (by decide) (hsr _ hq)) ?_
  refine am_g 1 42 [some (.ref 14), some (.int (nI q)), some (.int 0), some (.ref (75 + q))] [.int (ln q 0)] (hG σ sr ln Lc μ) rfl ?_
  exact am_ret2 rfl rfl rfl rfl rfl
theorem sp_X11_taken_1 (d : Nat) (q : Nat) (hq : q < Lc) (hL : Lc ≤ 40) (hsr : ∀ i, i < Lc → sr i < 6) : am_X xs LL (d + 2) 121 [.ref 14, .int (nI q), .int 1] (hG σ sr ln Lc μ) (some (.int (bif ([false, true, false, false, false, false].getD (sr q) false) then ln q 0 else -13))) (hG σ sr ln Lc μ) := by
  refine am_XR (d := d + 1) (C := cd_X11_taken) (L := [some (.ref 14), some (.int (nI q)), some (.int 1), none]) rfl rfl rfl rfl ?_
  refine am_g 3 3 [some (.ref 14), some (.int (nI q)), some (.int 1), none] [.int 5, .int 0, .int 1] (hG σ sr ln Lc μ) rfl ?_
  refine am_call (y := 122) (vs := [.int 1, .int 0, .int 5]) (rest := []) (v := (some (.int 1))) (h1 := (hG σ sr ln Lc μ)) rfl rfl rfl (sp_X11_isWithin_b d _ _ _ _ (show decide ((0 : Int32) ≤ 1 ∧ (1 : Int32) ≤ 5) = true from by decide)) ?_
  refine am_g 3 14 [some (.ref 14), some (.int (nI q)), some (.int 1), none] [.int (nI q), .ref 14] (hG σ sr ln Lc μ) rfl ?_
  refine am_call (y := 128) (vs := [.ref 14, .int (nI q)]) (rest := []) (v := (some (.ref (75 + q)))) (h1 := (hG σ sr ln Lc μ)) rfl rfl rfl (sp_X11_lineAt_ok (σ := σ) (μ := μ) d q hq hL) ?_
  refine am_g 2 19 [some (.ref 14), some (.int (nI q)), some (.int 1), some (.ref (75 + q))] [.ref (75 + q)] (hG σ sr ln Lc μ) rfl ?_
  refine am_lnn2R rfl _ ?_
  refine am_g 2 27 [some (.ref 14), some (.int (nI q)), some (.int 1), some (.ref (75 + q))] [.int 1, .ref (75 + q)] (hG σ sr ln Lc μ) rfl ?_
  cases e1 : [false, true, false, false, false, false].getD (sr q) false with
  | false =>
    refine am_call (y := 139) (vs := [.ref (75 + q), .int 1]) (rest := []) (v := (some (.int 0))) (h1 := (hG σ sr ln Lc μ)) rfl rfl rfl (sp_X11_isOfSort_1b (σ := σ) (μ := μ) d q hq hL hsr e1) ?_
    refine am_g 2 42 [some (.ref 14), some (.int (nI q)), some (.int 1), some (.ref (75 + q))] [.int (-13)] (hG σ sr ln Lc μ) rfl ?_
    exact am_ret2 rfl rfl rfl rfl rfl
  | true =>
    refine am_call (y := 139) (vs := [.ref (75 + q), .int 1]) (rest := []) (v := (some (.int 1))) (h1 := (hG σ sr ln Lc μ)) rfl rfl rfl (sp_X11_isOfSort_1b (σ := σ) (μ := μ) d q hq hL hsr e1) ?_
    refine am_g 2 34 [some (.ref 14), some (.int (nI q)), some (.int 1), some (.ref (75 + q))] [.ref (75 + q)] (hG σ sr ln Lc μ) rfl ?_
    refine am_lgetR (i := q) (k := 0) rfl hq (by decide) (am_lkx (by decide) (hsr _ hq)) ?_
    refine am_g 1 42 [some (.ref 14), some (.int (nI q)), some (.int 1), some (.ref (75 + q))] [.int (ln q 0)] (hG σ sr ln Lc μ) rfl ?_
    exact am_ret2 rfl rfl rfl rfl rfl
theorem sp_X11_taken_2 (d : Nat) (q : Nat) (hq : q < Lc) (hL : Lc ≤ 40) (hsr : ∀ i, i < Lc → sr i < 6) : am_X xs LL (d + 2) 121 [.ref 14, .int (nI q), .int 2] (hG σ sr ln Lc μ) (some (.int (bif ([false, false, true, true, true, false].getD (sr q) false) then ln q 0 else -13))) (hG σ sr ln Lc μ) := by
  refine am_XR (d := d + 1) (C := cd_X11_taken) (L := [some (.ref 14), some (.int (nI q)), some (.int 2), none]) rfl rfl rfl rfl ?_
  refine am_g 3 3 [some (.ref 14), some (.int (nI q)), some (.int 2), none] [.int 5, .int 0, .int 2] (hG σ sr ln Lc μ) rfl ?_
  refine am_call (y := 122) (vs := [.int 2, .int 0, .int 5]) (rest := []) (v := (some (.int 1))) (h1 := (hG σ sr ln Lc μ)) rfl rfl rfl (sp_X11_isWithin_b d _ _ _ _ (show decide ((0 : Int32) ≤ 2 ∧ (2 : Int32) ≤ 5) = true from by decide)) ?_
  refine am_g 3 14 [some (.ref 14), some (.int (nI q)), some (.int 2), none] [.int (nI q), .ref 14] (hG σ sr ln Lc μ) rfl ?_
  refine am_call (y := 128) (vs := [.ref 14, .int (nI q)]) (rest := []) (v := (some (.ref (75 + q)))) (h1 := (hG σ sr ln Lc μ)) rfl rfl rfl (sp_X11_lineAt_ok (σ := σ) (μ := μ) d q hq hL) ?_
  refine am_g 2 19 [some (.ref 14), some (.int (nI q)), some (.int 2), some (.ref (75 + q))] [.ref (75 + q)] (hG σ sr ln Lc μ) rfl ?_
  refine am_lnn2R rfl _ ?_
  refine am_g 2 27 [some (.ref 14), some (.int (nI q)), some (.int 2), some (.ref (75 + q))] [.int 2, .ref (75 + q)] (hG σ sr ln Lc μ) rfl ?_
  cases e1 : [false, false, true, true, true, false].getD (sr q) false with
  | false =>
    refine am_call (y := 139) (vs := [.ref (75 + q), .int 2]) (rest := []) (v := (some (.int 0))) (h1 := (hG σ sr ln Lc μ)) rfl rfl rfl (sp_X11_isOfSort_2b (σ := σ) (μ := μ) d q hq hL hsr e1) ?_
    refine am_g 2 42 [some (.ref 14), some (.int (nI q)), some (.int 2), some (.ref (75 + q))] [.int (-13)] (hG σ sr ln Lc μ) rfl ?_
    exact am_ret2 rfl rfl rfl rfl rfl
  | true =>
    refine am_call (y := 139) (vs := [.ref (75 + q), .int 2]) (rest := []) (v := (some (.int 1))) (h1 := (hG σ sr ln Lc μ)) rfl rfl rfl (sp_X11_isOfSort_2b (σ := σ) (μ := μ) d q hq hL hsr e1) ?_
    refine am_g 2 34 [some (.ref 14), some (.int (nI q)), some (.int 2), some (.ref (75 + q))] [.ref (75 + q)] (hG σ sr ln Lc μ) rfl ?_
    refine am_lgetR (i := q) (k := 0) rfl hq (by decide) (am_lkx (by decide) (hsr _ hq)) ?_
    refine am_g 1 42 [some (.ref 14), some (.int (nI q)), some (.int 2), some (.ref (75 + q))] [.int (ln q 0)] (hG σ sr ln Lc μ) rfl ?_
    exact am_ret2 rfl rfl rfl rfl rfl
theorem sp_X11_taken_3 (d : Nat) (q : Nat) (hq : q < Lc) (hL : Lc ≤ 40) (hsr : ∀ i, i < Lc → sr i < 6) : am_X xs LL (d + 2) 121 [.ref 14, .int (nI q), .int 3] (hG σ sr ln Lc μ) (some (.int (bif ([false, false, false, true, false, false].getD (sr q) false) then ln q 0 else -13))) (hG σ sr ln Lc μ) := by
  refine am_XR (d := d + 1) (C := cd_X11_taken) (L := [some (.ref 14), some (.int (nI q)), some (.int 3), none]) rfl rfl rfl rfl ?_
  refine am_g 3 3 [some (.ref 14), some (.int (nI q)), some (.int 3), none] [.int 5, .int 0, .int 3] (hG σ sr ln Lc μ) rfl ?_
  refine am_call (y := 122) (vs := [.int 3, .int 0, .int 5]) (rest := []) (v := (some (.int 1))) (h1 := (hG σ sr ln Lc μ)) rfl rfl rfl (sp_X11_isWithin_b d _ _ _ _ (show decide ((0 : Int32) ≤ 3 ∧ (3 : Int32) ≤ 5) = true from by decide)) ?_
  refine am_g 3 14 [some (.ref 14), some (.int (nI q)), some (.int 3), none] [.int (nI q), .ref 14] (hG σ sr ln Lc μ) rfl ?_
  refine am_call (y := 128) (vs := [.ref 14, .int (nI q)]) (rest := []) (v := (some (.ref (75 + q)))) (h1 := (hG σ sr ln Lc μ)) rfl rfl rfl (sp_X11_lineAt_ok (σ := σ) (μ := μ) d q hq hL) ?_
  refine am_g 2 19 [some (.ref 14), some (.int (nI q)), some (.int 3), some (.ref (75 + q))] [.ref (75 + q)] (hG σ sr ln Lc μ) rfl ?_
  refine am_lnn2R rfl _ ?_
  refine am_g 2 27 [some (.ref 14), some (.int (nI q)), some (.int 3), some (.ref (75 + q))] [.int 3, .ref (75 + q)] (hG σ sr ln Lc μ) rfl ?_
  cases e1 : [false, false, false, true, false, false].getD (sr q) false with
  | false =>
    refine am_call (y := 139) (vs := [.ref (75 + q), .int 3]) (rest := []) (v := (some (.int 0))) (h1 := (hG σ sr ln Lc μ)) rfl rfl rfl (sp_X11_isOfSort_3b (σ := σ) (μ := μ) d q hq hL hsr e1) ?_
    refine am_g 2 42 [some (.ref 14), some (.int (nI q)), some (.int 3), some (.ref (75 + q))] [.int (-13)] (hG σ sr ln Lc μ) rfl ?_
    exact am_ret2 rfl rfl rfl rfl rfl
  | true =>
    refine am_call (y := 139) (vs := [.ref (75 + q), .int 3]) (rest := []) (v := (some (.int 1))) (h1 := (hG σ sr ln Lc μ)) rfl rfl rfl (sp_X11_isOfSort_3b (σ := σ) (μ := μ) d q hq hL hsr e1) ?_
    refine am_g 2 34 [some (.ref 14), some (.int (nI q)), some (.int 3), some (.ref (75 + q))] [.ref (75 + q)] (hG σ sr ln Lc μ) rfl ?_
    refine am_lgetR (i := q) (k := 0) rfl hq (by decide) (am_lkx (by decide) (hsr _ hq)) ?_
    refine am_g 1 42 [some (.ref 14), some (.int (nI q)), some (.int 3), some (.ref (75 + q))] [.int (ln q 0)] (hG σ sr ln Lc μ) rfl ?_
    exact am_ret2 rfl rfl rfl rfl rfl
theorem sp_X11_taken_4 (d : Nat) (q : Nat) (hq : q < Lc) (hL : Lc ≤ 40) (hsr : ∀ i, i < Lc → sr i < 6) : am_X xs LL (d + 2) 121 [.ref 14, .int (nI q), .int 4] (hG σ sr ln Lc μ) (some (.int (bif ([false, false, false, false, true, false].getD (sr q) false) then ln q 0 else -13))) (hG σ sr ln Lc μ) := by
  refine am_XR (d := d + 1) (C := cd_X11_taken) (L := [some (.ref 14), some (.int (nI q)), some (.int 4), none]) rfl rfl rfl rfl ?_
  refine am_g 3 3 [some (.ref 14), some (.int (nI q)), some (.int 4), none] [.int 5, .int 0, .int 4] (hG σ sr ln Lc μ) rfl ?_
  refine am_call (y := 122) (vs := [.int 4, .int 0, .int 5]) (rest := []) (v := (some (.int 1))) (h1 := (hG σ sr ln Lc μ)) rfl rfl rfl (sp_X11_isWithin_b d _ _ _ _ (show decide ((0 : Int32) ≤ 4 ∧ (4 : Int32) ≤ 5) = true from by decide)) ?_
  refine am_g 3 14 [some (.ref 14), some (.int (nI q)), some (.int 4), none] [.int (nI q), .ref 14] (hG σ sr ln Lc μ) rfl ?_
  refine am_call (y := 128) (vs := [.ref 14, .int (nI q)]) (rest := []) (v := (some (.ref (75 + q)))) (h1 := (hG σ sr ln Lc μ)) rfl rfl rfl (sp_X11_lineAt_ok (σ := σ) (μ := μ) d q hq hL) ?_
  refine am_g 2 19 [some (.ref 14), some (.int (nI q)), some (.int 4), some (.ref (75 + q))] [.ref (75 + q)] (hG σ sr ln Lc μ) rfl ?_
  refine am_lnn2R rfl _ ?_
  refine am_g 2 27 [some (.ref 14), some (.int (nI q)), some (.int 4), some (.ref (75 + q))] [.int 4, .ref (75 + q)] (hG σ sr ln Lc μ) rfl ?_
  cases e1 : [false, false, false, false, true, false].getD (sr q) false with
  | false =>
    refine am_call (y := 139) (vs := [.ref (75 + q), .int 4]) (rest := []) (v := (some (.int 0))) (h1 := (hG σ sr ln Lc μ)) rfl rfl rfl (sp_X11_isOfSort_4b (σ := σ) (μ := μ) d q hq hL hsr e1) ?_
    refine am_g 2 42 [some (.ref 14), some (.int (nI q)), some (.int 4), some (.ref (75 + q))] [.int (-13)] (hG σ sr ln Lc μ) rfl ?_
    exact am_ret2 rfl rfl rfl rfl rfl
  | true =>
    refine am_call (y := 139) (vs := [.ref (75 + q), .int 4]) (rest := []) (v := (some (.int 1))) (h1 := (hG σ sr ln Lc μ)) rfl rfl rfl (sp_X11_isOfSort_4b (σ := σ) (μ := μ) d q hq hL hsr e1) ?_
    refine am_g 2 34 [some (.ref 14), some (.int (nI q)), some (.int 4), some (.ref (75 + q))] [.ref (75 + q)] (hG σ sr ln Lc μ) rfl ?_
    refine am_lgetR (i := q) (k := 0) rfl hq (by decide) (am_lkx (by decide) (hsr _ hq)) ?_
    refine am_g 1 42 [some (.ref 14), some (.int (nI q)), some (.int 4), some (.ref (75 + q))] [.int (ln q 0)] (hG σ sr ln Lc μ) rfl ?_
    exact am_ret2 rfl rfl rfl rfl rfl
theorem sp_X11_taken_5 (d : Nat) (q : Nat) (hq : q < Lc) (hL : Lc ≤ 40) (hsr : ∀ i, i < Lc → sr i < 6) : am_X xs LL (d + 2) 121 [.ref 14, .int (nI q), .int 5] (hG σ sr ln Lc μ) (some (.int (bif ([false, false, false, false, false, true].getD (sr q) false) then ln q 0 else -13))) (hG σ sr ln Lc μ) := by
  refine am_XR (d := d + 1) (C := cd_X11_taken) (L := [some (.ref 14), some (.int (nI q)), some (.int 5), none]) rfl rfl rfl rfl ?_
  refine am_g 3 3 [some (.ref 14), some (.int (nI q)), some (.int 5), none] [.int 5, .int 0, .int 5] (hG σ sr ln Lc μ) rfl ?_
  refine am_call (y := 122) (vs := [.int 5, .int 0, .int 5]) (rest := []) (v := (some (.int 1))) (h1 := (hG σ sr ln Lc μ)) rfl rfl rfl (sp_X11_isWithin_b d _ _ _ _ (show decide ((0 : Int32) ≤ 5 ∧ (5 : Int32) ≤ 5) = true from by decide)) ?_
  refine am_g 3 14 [some (.ref 14), some (.int (nI q)), some (.int 5), none] [.int (nI q), .ref 14] (hG σ sr ln Lc μ) rfl ?_
  refine am_call (y := 128) (vs := [.ref 14, .int (nI q)]) (rest := []) (v := (some (.ref (75 + q)))) (h1 := (hG σ sr ln Lc μ)) rfl rfl rfl (sp_X11_lineAt_ok (σ := σ) (μ := μ) d q hq hL) ?_
  refine am_g 2 19 [some (.ref 14), some (.int (nI q)), some (.int 5), some (.ref (75 + q))] [.ref (75 + q)] (hG σ sr ln Lc μ) rfl ?_
  refine am_lnn2R rfl _ ?_
  refine am_g 2 27 [some (.ref 14), some (.int (nI q)), some (.int 5), some (.ref (75 + q))] [.int 5, .ref (75 + q)] (hG σ sr ln Lc μ) rfl ?_
  cases e1 : [false, false, false, false, false, true].getD (sr q) false with
  | false =>
    refine am_call (y := 139) (vs := [.ref (75 + q), .int 5]) (rest := []) (v := (some (.int 0))) (h1 := (hG σ sr ln Lc μ)) rfl rfl rfl (sp_X11_isOfSort_5b (σ := σ) (μ := μ) d q hq hL hsr e1) ?_
    refine am_g 2 42 [some (.ref 14), some (.int (nI q)), some (.int 5), some (.ref (75 + q))] [.int (-13)] (hG σ sr ln Lc μ) rfl ?_
    exact am_ret2 rfl rfl rfl rfl rfl
  | true =>
    refine am_call (y := 139) (vs := [.ref (75 + q), .int 5]) (rest := []) (v := (some (.int 1))) (h1 := (hG σ sr ln Lc μ)) rfl rfl rfl (sp_X11_isOfSort_5b (σ := σ) (μ := μ) d q hq hL hsr e1) ?_
    refine am_g 2 34 [some (.ref 14), some (.int (nI q)), some (.int 5), some (.ref (75 + q))] [.ref (75 + q)] (hG σ sr ln Lc μ) rfl ?_
    refine am_lgetR (i := q) (k := 0) rfl hq (by decide) (am_lkx (by decide) (hsr _ hq)) ?_
    refine am_g 1 42 [some (.ref 14), some (.int (nI q)), some (.int 5), some (.ref (75 + q))] [.int (ln q 0)] (hG σ sr ln Lc μ) rfl ?_
    exact am_ret2 rfl rfl rfl rfl rfl
theorem sp_X11_taken_bad (d : Nat) (q k : Int32) (hk : am_in k 6 = false) : am_X xs LL (d + 2) 121 [.ref 14, .int q, .int k] (hG σ sr ln Lc μ) (some (.int (-2))) (hG σ sr ln Lc μ) := by
  refine am_XR (d := d + 1) (C := cd_X11_taken) (L := [some (.ref 14), some (.int q), some (.int k), none]) rfl rfl rfl rfl ?_
  refine am_g 3 3 [some (.ref 14), some (.int q), some (.int k), none] [.int 5, .int 0, .int k] (hG σ sr ln Lc μ) rfl ?_
  refine am_call (y := 122) (vs := [.int k, .int 0, .int 5]) (rest := []) (v := (some (.int 0))) (h1 := (hG σ sr ln Lc μ)) rfl rfl rfl (sp_X11_isWithin_b d _ _ _ _ ((am_wi (n := 6) (by decide)).trans hk)) ?_
  refine am_g 2 11 [some (.ref 14), some (.int q), some (.int k), none] [.int (-2)] (hG σ sr ln Lc μ) rfl ?_
  exact am_ret2 rfl rfl rfl rfl rfl
theorem sp_X11_taken_no (d : Nat) (q k : Int32) (hk : am_in k 6 = true) (hb : am_in q Lc = false) (hL : Lc ≤ 40) : am_X xs LL (d + 2) 121 [.ref 14, .int q, .int k] (hG σ sr ln Lc μ) (some (.int (-11))) (hG σ sr ln Lc μ) := by
  refine am_XR (d := d + 1) (C := cd_X11_taken) (L := [some (.ref 14), some (.int q), some (.int k), none]) rfl rfl rfl rfl ?_
  refine am_g 3 3 [some (.ref 14), some (.int q), some (.int k), none] [.int 5, .int 0, .int k] (hG σ sr ln Lc μ) rfl ?_
  refine am_call (y := 122) (vs := [.int k, .int 0, .int 5]) (rest := []) (v := (some (.int 1))) (h1 := (hG σ sr ln Lc μ)) rfl rfl rfl (sp_X11_isWithin_b d _ _ _ _ ((am_wi (n := 6) (by decide)).trans hk)) ?_
  refine am_g 3 14 [some (.ref 14), some (.int q), some (.int k), none] [.int q, .ref 14] (hG σ sr ln Lc μ) rfl ?_
  refine am_call (y := 128) (vs := [.ref 14, .int q]) (rest := []) (v := (some (.null))) (h1 := (hG σ sr ln Lc μ)) rfl rfl rfl (sp_X11_lineAt_no (σ := σ) (μ := μ) d _ hb hL) ?_
  refine am_g 4 24 [some (.ref 14), some (.int q), some (.int k), some (.null)] [.int (-11)] (hG σ sr ln Lc μ) rfl ?_
  exact am_ret2 rfl rfl rfl rfl rfl
theorem sp_X12_over_0 (d : Nat) (h : am_H) : am_X xs LL (d + 1) 207 [.int 0] h (some (.int (-1))) h := by
  refine am_XR (d := d + 0) (C := cd_X12_over) (L := [some (.int 0)]) rfl rfl rfl rfl ?_
  refine am_g 4 23 [some (.int 0)] [.int (-1)] h rfl ?_
  exact am_ret2 rfl rfl rfl rfl rfl
theorem sp_X12_over_1 (d : Nat) (h : am_H) : am_X xs LL (d + 1) 207 [.int 1] h (some (.int 0)) h := by
  refine am_XR (d := d + 0) (C := cd_X12_over) (L := [some (.int 1)]) rfl rfl rfl rfl ?_
  refine am_g 9 23 [some (.int 1)] [.int 0] h rfl ?_
  exact am_ret2 rfl rfl rfl rfl rfl
theorem sp_X12_over_2 (d : Nat) (h : am_H) : am_X xs LL (d + 1) 207 [.int 2] h (some (.int 0)) h := by
  refine am_XR (d := d + 0) (C := cd_X12_over) (L := [some (.int 2)]) rfl rfl rfl rfl ?_
  refine am_g 9 23 [some (.int 2)] [.int 0] h rfl ?_
  exact am_ret2 rfl rfl rfl rfl rfl
theorem sp_X12_over_3 (d : Nat) (h : am_H) : am_X xs LL (d + 1) 207 [.int 3] h (some (.int 2)) h := by
  refine am_XR (d := d + 0) (C := cd_X12_over) (L := [some (.int 3)]) rfl rfl rfl rfl ?_
  refine am_g 7 23 [some (.int 3)] [.int 2] h rfl ?_
  exact am_ret2 rfl rfl rfl rfl rfl
theorem sp_X12_over_4 (d : Nat) (h : am_H) : am_X xs LL (d + 1) 207 [.int 4] h (some (.int 2)) h := by
  refine am_XR (d := d + 0) (C := cd_X12_over) (L := [some (.int 4)]) rfl rfl rfl rfl ?_
  refine am_g 10 23 [some (.int 4)] [.int 2] h rfl ?_
  exact am_ret2 rfl rfl rfl rfl rfl
theorem sp_X12_over_5 (d : Nat) (h : am_H) : am_X xs LL (d + 1) 207 [.int 5] h (some (.int 0)) h := by
  refine am_XR (d := d + 0) (C := cd_X12_over) (L := [some (.int 5)]) rfl rfl rfl rfl ?_
  refine am_g 9 23 [some (.int 5)] [.int 0] h rfl ?_
  exact am_ret2 rfl rfl rfl rfl rfl
theorem sp_X12_taken_00 (d : Nat) {N : Nat} (hN : μ 17 0 = nI N) (hN40 : N ≤ 40) (q : Nat) (hq : q < N) (hs : μ 7 q = 0) : am_X xs LL (d + 3) 208 [.ref 47, .int (nI q), .int 0] (hG σ sr ln Lc μ) (some (.int (μ 8 q))) (hG σ sr ln Lc μ) := by
  refine am_XR (d := d + 2) (C := cd_X12_taken) (L := [some (.ref 47), some (.int (nI q)), some (.int 0), none]) rfl rfl rfl rfl ?_
  refine am_g 4 6 [some (.ref 47), some (.int (nI q)), some (.int 0), none] [.long 5, .long 0, .long ((0 : Int32).toInt64)] (hG σ sr ln Lc μ) rfl ?_
  refine am_call (y := 140) (vs := [.long ((0 : Int32).toInt64), .long 0, .long 5]) (rest := []) (v := (some (.int 1))) (h1 := (hG σ sr ln Lc μ)) rfl rfl rfl (sp_X12_in_b (d + 1) _ _ _ _ (show decide ((0 : Int64) ≤ (0 : Int32).toInt64 ∧ (0 : Int32).toInt64 ≤ 5) = true from by decide)) ?_
  refine am_g 3 17 [some (.ref 47), some (.int (nI q)), some (.int 0), none] [.int (nI q), .ref 47] (hG σ sr ln Lc μ) rfl ?_
  refine am_call (y := 152) (vs := [.ref 47, .int (nI q)]) (rest := []) (v := (some (.int 1))) (h1 := (hG σ sr ln Lc μ)) rfl rfl rfl (sp_X12_isLine (σ := σ) (μ := μ) d _ hN (by omega) (am_in_of_nI hq (by omega))) ?_
  refine am_g 4 31 [some (.ref 47), some (.int (nI q)), some (.int 0), none] [.int (nI q), .ref 53] (hG σ sr ln Lc μ) rfl ?_
  refine am_ialdV (n := 40) (f := (μ 7)) (k := q) (w := 0) rfl rfl (rfl) (by omega) (by decide) (hs) ?_
  refine am_g 8 52 [some (.ref 47), some (.int (nI q)), some (.int 0), some (.int 0)] [.int 0] (hG σ sr ln Lc μ) rfl ?_
  refine am_g 5 61 [some (.ref 47), some (.int (nI q)), some (.int 0), some (.int 0)] [.int (nI q), .ref 54] (hG σ sr ln Lc μ) rfl ?_
  refine am_ialdR (n := 40) (f := (μ 8)) (k := q) rfl rfl (rfl) (by omega) (by decide) ?_
  refine am_g 1 67 [some (.ref 47), some (.int (nI q)), some (.int 0), some (.int 0)] [.int (μ 8 q)] (hG σ sr ln Lc μ) rfl ?_
  exact am_ret2 rfl rfl rfl rfl rfl
theorem sp_X12_taken_01 (d : Nat) {N : Nat} (hN : μ 17 0 = nI N) (hN40 : N ≤ 40) (q : Nat) (hq : q < N) (hs : μ 7 q = 0) : am_X xs LL (d + 3) 208 [.ref 47, .int (nI q), .int 1] (hG σ sr ln Lc μ) (some (.int (-13))) (hG σ sr ln Lc μ) := by
  refine am_XR (d := d + 2) (C := cd_X12_taken) (L := [some (.ref 47), some (.int (nI q)), some (.int 1), none]) rfl rfl rfl rfl ?_
  refine am_g 4 6 [some (.ref 47), some (.int (nI q)), some (.int 1), none] [.long 5, .long 0, .long ((1 : Int32).toInt64)] (hG σ sr ln Lc μ) rfl ?_
  refine am_call (y := 140) (vs := [.long ((1 : Int32).toInt64), .long 0, .long 5]) (rest := []) (v := (some (.int 1))) (h1 := (hG σ sr ln Lc μ)) rfl rfl rfl (sp_X12_in_b (d + 1) _ _ _ _ (show decide ((0 : Int64) ≤ (1 : Int32).toInt64 ∧ (1 : Int32).toInt64 ≤ 5) = true from by decide)) ?_
  refine am_g 3 17 [some (.ref 47), some (.int (nI q)), some (.int 1), none] [.int (nI q), .ref 47] (hG σ sr ln Lc μ) rfl ?_
  refine am_call (y := 152) (vs := [.ref 47, .int (nI q)]) (rest := []) (v := (some (.int 1))) (h1 := (hG σ sr ln Lc μ)) rfl rfl rfl (sp_X12_isLine (σ := σ) (μ := μ) d _ hN (by omega) (am_in_of_nI hq (by omega))) ?_
  refine am_g 4 31 [some (.ref 47), some (.int (nI q)), some (.int 1), none] [.int (nI q), .ref 53] (hG σ sr ln Lc μ) rfl ?_
  refine am_ialdV (n := 40) (f := (μ 7)) (k := q) (w := 0) rfl rfl (rfl) (by omega) (by decide) (hs) ?_
  refine am_g 8 44 [some (.ref 47), some (.int (nI q)), some (.int 1), some (.int 0)] [.int 0] (hG σ sr ln Lc μ) rfl ?_
  refine am_call (y := 207) (vs := [.int 0]) (rest := []) (v := (some (.int (-1)))) (h1 := (hG σ sr ln Lc μ)) rfl rfl rfl (sp_X12_over_0 (d + 1) _) ?_
  refine am_g 8 65 [some (.ref 47), some (.int (nI q)), some (.int 1), some (.int (-1))] [] (hG σ sr ln Lc μ) rfl ?_
  refine am_g 1 67 [some (.ref 47), some (.int (nI q)), some (.int 1), some (.int (-1))] [.int (-13)] (hG σ sr ln Lc μ) rfl ?_
  exact am_ret2 rfl rfl rfl rfl rfl
theorem sp_X12_taken_02 (d : Nat) {N : Nat} (hN : μ 17 0 = nI N) (hN40 : N ≤ 40) (q : Nat) (hq : q < N) (hs : μ 7 q = 0) : am_X xs LL (d + 3) 208 [.ref 47, .int (nI q), .int 2] (hG σ sr ln Lc μ) (some (.int (-13))) (hG σ sr ln Lc μ) := by
  refine am_XR (d := d + 2) (C := cd_X12_taken) (L := [some (.ref 47), some (.int (nI q)), some (.int 2), none]) rfl rfl rfl rfl ?_
  refine am_g 4 6 [some (.ref 47), some (.int (nI q)), some (.int 2), none] [.long 5, .long 0, .long ((2 : Int32).toInt64)] (hG σ sr ln Lc μ) rfl ?_
  refine am_call (y := 140) (vs := [.long ((2 : Int32).toInt64), .long 0, .long 5]) (rest := []) (v := (some (.int 1))) (h1 := (hG σ sr ln Lc μ)) rfl rfl rfl (sp_X12_in_b (d + 1) _ _ _ _ (show decide ((0 : Int64) ≤ (2 : Int32).toInt64 ∧ (2 : Int32).toInt64 ≤ 5) = true from by decide)) ?_
  refine am_g 3 17 [some (.ref 47), some (.int (nI q)), some (.int 2), none] [.int (nI q), .ref 47] (hG σ sr ln Lc μ) rfl ?_
  refine am_call (y := 152) (vs := [.ref 47, .int (nI q)]) (rest := []) (v := (some (.int 1))) (h1 := (hG σ sr ln Lc μ)) rfl rfl rfl (sp_X12_isLine (σ := σ) (μ := μ) d _ hN (by omega) (am_in_of_nI hq (by omega))) ?_
  refine am_g 4 31 [some (.ref 47), some (.int (nI q)), some (.int 2), none] [.int (nI q), .ref 53] (hG σ sr ln Lc μ) rfl ?_
  refine am_ialdV (n := 40) (f := (μ 7)) (k := q) (w := 0) rfl rfl (rfl) (by omega) (by decide) (hs) ?_
  refine am_g 8 44 [some (.ref 47), some (.int (nI q)), some (.int 2), some (.int 0)] [.int 0] (hG σ sr ln Lc μ) rfl ?_
  refine am_call (y := 207) (vs := [.int 0]) (rest := []) (v := (some (.int (-1)))) (h1 := (hG σ sr ln Lc μ)) rfl rfl rfl (sp_X12_over_0 (d + 1) _) ?_
  refine am_g 8 65 [some (.ref 47), some (.int (nI q)), some (.int 2), some (.int (-1))] [] (hG σ sr ln Lc μ) rfl ?_
  refine am_g 1 67 [some (.ref 47), some (.int (nI q)), some (.int 2), some (.int (-1))] [.int (-13)] (hG σ sr ln Lc μ) rfl ?_
  exact am_ret2 rfl rfl rfl rfl rfl
theorem sp_X12_taken_03 (d : Nat) {N : Nat} (hN : μ 17 0 = nI N) (hN40 : N ≤ 40) (q : Nat) (hq : q < N) (hs : μ 7 q = 0) : am_X xs LL (d + 3) 208 [.ref 47, .int (nI q), .int 3] (hG σ sr ln Lc μ) (some (.int (-13))) (hG σ sr ln Lc μ) := by
  refine am_XR (d := d + 2) (C := cd_X12_taken) (L := [some (.ref 47), some (.int (nI q)), some (.int 3), none]) rfl rfl rfl rfl ?_
  refine am_g 4 6 [some (.ref 47), some (.int (nI q)), some (.int 3), none] [.long 5, .long 0, .long ((3 : Int32).toInt64)] (hG σ sr ln Lc μ) rfl ?_
  refine am_call (y := 140) (vs := [.long ((3 : Int32).toInt64), .long 0, .long 5]) (rest := []) (v := (some (.int 1))) (h1 := (hG σ sr ln Lc μ)) rfl rfl rfl (sp_X12_in_b (d + 1) _ _ _ _ (show decide ((0 : Int64) ≤ (3 : Int32).toInt64 ∧ (3 : Int32).toInt64 ≤ 5) = true from by decide)) ?_
  refine am_g 3 17 [some (.ref 47), some (.int (nI q)), some (.int 3), none] [.int (nI q), .ref 47] (hG σ sr ln Lc μ) rfl ?_
  refine am_call (y := 152) (vs := [.ref 47, .int (nI q)]) (rest := []) (v := (some (.int 1))) (h1 := (hG σ sr ln Lc μ)) rfl rfl rfl (sp_X12_isLine (σ := σ) (μ := μ) d _ hN (by omega) (am_in_of_nI hq (by omega))) ?_
  refine am_g 4 31 [some (.ref 47), some (.int (nI q)), some (.int 3), none] [.int (nI q), .ref 53] (hG σ sr ln Lc μ) rfl ?_
  refine am_ialdV (n := 40) (f := (μ 7)) (k := q) (w := 0) rfl rfl (rfl) (by omega) (by decide) (hs) ?_
  refine am_g 8 44 [some (.ref 47), some (.int (nI q)), some (.int 3), some (.int 0)] [.int 0] (hG σ sr ln Lc μ) rfl ?_
  refine am_call (y := 207) (vs := [.int 0]) (rest := []) (v := (some (.int (-1)))) (h1 := (hG σ sr ln Lc μ)) rfl rfl rfl (sp_X12_over_0 (d + 1) _) ?_
  refine am_g 8 65 [some (.ref 47), some (.int (nI q)), some (.int 3), some (.int (-1))] [] (hG σ sr ln Lc μ) rfl ?_
  refine am_g 1 67 [some (.ref 47), some (.int (nI q)), some (.int 3), some (.int (-1))] [.int (-13)] (hG σ sr ln Lc μ) rfl ?_
  exact am_ret2 rfl rfl rfl rfl rfl
theorem sp_X12_taken_04 (d : Nat) {N : Nat} (hN : μ 17 0 = nI N) (hN40 : N ≤ 40) (q : Nat) (hq : q < N) (hs : μ 7 q = 0) : am_X xs LL (d + 3) 208 [.ref 47, .int (nI q), .int 4] (hG σ sr ln Lc μ) (some (.int (-13))) (hG σ sr ln Lc μ) := by
  refine am_XR (d := d + 2) (C := cd_X12_taken) (L := [some (.ref 47), some (.int (nI q)), some (.int 4), none]) rfl rfl rfl rfl ?_
  refine am_g 4 6 [some (.ref 47), some (.int (nI q)), some (.int 4), none] [.long 5, .long 0, .long ((4 : Int32).toInt64)] (hG σ sr ln Lc μ) rfl ?_
  refine am_call (y := 140) (vs := [.long ((4 : Int32).toInt64), .long 0, .long 5]) (rest := []) (v := (some (.int 1))) (h1 := (hG σ sr ln Lc μ)) rfl rfl rfl (sp_X12_in_b (d + 1) _ _ _ _ (show decide ((0 : Int64) ≤ (4 : Int32).toInt64 ∧ (4 : Int32).toInt64 ≤ 5) = true from by decide)) ?_
  refine am_g 3 17 [some (.ref 47), some (.int (nI q)), some (.int 4), none] [.int (nI q), .ref 47] (hG σ sr ln Lc μ) rfl ?_
  refine am_call (y := 152) (vs := [.ref 47, .int (nI q)]) (rest := []) (v := (some (.int 1))) (h1 := (hG σ sr ln Lc μ)) rfl rfl rfl (sp_X12_isLine (σ := σ) (μ := μ) d _ hN (by omega) (am_in_of_nI hq (by omega))) ?_
  refine am_g 4 31 [some (.ref 47), some (.int (nI q)), some (.int 4), none] [.int (nI q), .ref 53] (hG σ sr ln Lc μ) rfl ?_
  refine am_ialdV (n := 40) (f := (μ 7)) (k := q) (w := 0) rfl rfl (rfl) (by omega) (by decide) (hs) ?_
  refine am_g 8 44 [some (.ref 47), some (.int (nI q)), some (.int 4), some (.int 0)] [.int 0] (hG σ sr ln Lc μ) rfl ?_
  refine am_call (y := 207) (vs := [.int 0]) (rest := []) (v := (some (.int (-1)))) (h1 := (hG σ sr ln Lc μ)) rfl rfl rfl (sp_X12_over_0 (d + 1) _) ?_
  refine am_g 8 65 [some (.ref 47), some (.int (nI q)), some (.int 4), some (.int (-1))] [] (hG σ sr ln Lc μ) rfl ?_
  refine am_g 1 67 [some (.ref 47), some (.int (nI q)), some (.int 4), some (.int (-1))] [.int (-13)] (hG σ sr ln Lc μ) rfl ?_
  exact am_ret2 rfl rfl rfl rfl rfl
theorem sp_X12_taken_05 (d : Nat) {N : Nat} (hN : μ 17 0 = nI N) (hN40 : N ≤ 40) (q : Nat) (hq : q < N) (hs : μ 7 q = 0) : am_X xs LL (d + 3) 208 [.ref 47, .int (nI q), .int 5] (hG σ sr ln Lc μ) (some (.int (-13))) (hG σ sr ln Lc μ) := by
  refine am_XR (d := d + 2) (C := cd_X12_taken) (L := [some (.ref 47), some (.int (nI q)), some (.int 5), none]) rfl rfl rfl rfl ?_
  refine am_g 4 6 [some (.ref 47), some (.int (nI q)), some (.int 5), none] [.long 5, .long 0, .long ((5 : Int32).toInt64)] (hG σ sr ln Lc μ) rfl ?_
  refine am_call (y := 140) (vs := [.long ((5 : Int32).toInt64), .long 0, .long 5]) (rest := []) (v := (some (.int 1))) (h1 := (hG σ sr ln Lc μ)) rfl rfl rfl (sp_X12_in_b (d + 1) _ _ _ _ (show decide ((0 : Int64) ≤ (5 : Int32).toInt64 ∧ (5 : Int32).toInt64 ≤ 5) = true from by decide)) ?_
  refine am_g 3 17 [some (.ref 47), some (.int (nI q)), some (.int 5), none] [.int (nI q), .ref 47] (hG σ sr ln Lc μ) rfl ?_
  refine am_call (y := 152) (vs := [.ref 47, .int (nI q)]) (rest := []) (v := (some (.int 1))) (h1 := (hG σ sr ln Lc μ)) rfl rfl rfl (sp_X12_isLine (σ := σ) (μ := μ) d _ hN (by omega) (am_in_of_nI hq (by omega))) ?_
  refine am_g 4 31 [some (.ref 47), some (.int (nI q)), some (.int 5), none] [.int (nI q), .ref 53] (hG σ sr ln Lc μ) rfl ?_
  refine am_ialdV (n := 40) (f := (μ 7)) (k := q) (w := 0) rfl rfl (rfl) (by omega) (by decide) (hs) ?_
  refine am_g 8 44 [some (.ref 47), some (.int (nI q)), some (.int 5), some (.int 0)] [.int 0] (hG σ sr ln Lc μ) rfl ?_
  refine am_call (y := 207) (vs := [.int 0]) (rest := []) (v := (some (.int (-1)))) (h1 := (hG σ sr ln Lc μ)) rfl rfl rfl (sp_X12_over_0 (d + 1) _) ?_
  refine am_g 8 65 [some (.ref 47), some (.int (nI q)), some (.int 5), some (.int (-1))] [] (hG σ sr ln Lc μ) rfl ?_
  refine am_g 1 67 [some (.ref 47), some (.int (nI q)), some (.int 5), some (.int (-1))] [.int (-13)] (hG σ sr ln Lc μ) rfl ?_
  exact am_ret2 rfl rfl rfl rfl rfl
theorem sp_X12_taken_10 (d : Nat) {N : Nat} (hN : μ 17 0 = nI N) (hN40 : N ≤ 40) (q : Nat) (hq : q < N) (hs : μ 7 q = 1) : am_X xs LL (d + 3) 208 [.ref 47, .int (nI q), .int 0] (hG σ sr ln Lc μ) (some (.int (μ 8 q))) (hG σ sr ln Lc μ) := by
  refine am_XR (d := d + 2) (C := cd_X12_taken) (L := [some (.ref 47), some (.int (nI q)), some (.int 0), none]) rfl rfl rfl rfl ?_
  refine am_g 4 6 [some (.ref 47), some (.int (nI q)), some (.int 0), none] [.long 5, .long 0, .long ((0 : Int32).toInt64)] (hG σ sr ln Lc μ) rfl ?_
  refine am_call (y := 140) (vs := [.long ((0 : Int32).toInt64), .long 0, .long 5]) (rest := []) (v := (some (.int 1))) (h1 := (hG σ sr ln Lc μ)) rfl rfl rfl (sp_X12_in_b (d + 1) _ _ _ _ (show decide ((0 : Int64) ≤ (0 : Int32).toInt64 ∧ (0 : Int32).toInt64 ≤ 5) = true from by decide)) ?_
  refine am_g 3 17 [some (.ref 47), some (.int (nI q)), some (.int 0), none] [.int (nI q), .ref 47] (hG σ sr ln Lc μ) rfl ?_
  refine am_call (y := 152) (vs := [.ref 47, .int (nI q)]) (rest := []) (v := (some (.int 1))) (h1 := (hG σ sr ln Lc μ)) rfl rfl rfl (sp_X12_isLine (σ := σ) (μ := μ) d _ hN (by omega) (am_in_of_nI hq (by omega))) ?_
  refine am_g 4 31 [some (.ref 47), some (.int (nI q)), some (.int 0), none] [.int (nI q), .ref 53] (hG σ sr ln Lc μ) rfl ?_
  refine am_ialdV (n := 40) (f := (μ 7)) (k := q) (w := 1) rfl rfl (rfl) (by omega) (by decide) (hs) ?_
  refine am_g 8 44 [some (.ref 47), some (.int (nI q)), some (.int 0), some (.int 1)] [.int 1] (hG σ sr ln Lc μ) rfl ?_
  refine am_call (y := 207) (vs := [.int 1]) (rest := []) (v := (some (.int 0))) (h1 := (hG σ sr ln Lc μ)) rfl rfl rfl (sp_X12_over_1 (d + 1) _) ?_
  refine am_g 8 51 [some (.ref 47), some (.int (nI q)), some (.int 0), some (.int 0)] [] (hG σ sr ln Lc μ) rfl ?_
  refine am_g 6 61 [some (.ref 47), some (.int (nI q)), some (.int 0), some (.int 0)] [.int (nI q), .ref 54] (hG σ sr ln Lc μ) rfl ?_
  refine am_ialdR (n := 40) (f := (μ 8)) (k := q) rfl rfl (rfl) (by omega) (by decide) ?_
  refine am_g 1 67 [some (.ref 47), some (.int (nI q)), some (.int 0), some (.int 0)] [.int (μ 8 q)] (hG σ sr ln Lc μ) rfl ?_
  exact am_ret2 rfl rfl rfl rfl rfl
theorem sp_X12_taken_11 (d : Nat) {N : Nat} (hN : μ 17 0 = nI N) (hN40 : N ≤ 40) (q : Nat) (hq : q < N) (hs : μ 7 q = 1) : am_X xs LL (d + 3) 208 [.ref 47, .int (nI q), .int 1] (hG σ sr ln Lc μ) (some (.int (μ 8 q))) (hG σ sr ln Lc μ) := by
  refine am_XR (d := d + 2) (C := cd_X12_taken) (L := [some (.ref 47), some (.int (nI q)), some (.int 1), none]) rfl rfl rfl rfl ?_
  refine am_g 4 6 [some (.ref 47), some (.int (nI q)), some (.int 1), none] [.long 5, .long 0, .long ((1 : Int32).toInt64)] (hG σ sr ln Lc μ) rfl ?_
  refine am_call (y := 140) (vs := [.long ((1 : Int32).toInt64), .long 0, .long 5]) (rest := []) (v := (some (.int 1))) (h1 := (hG σ sr ln Lc μ)) rfl rfl rfl (sp_X12_in_b (d + 1) _ _ _ _ (show decide ((0 : Int64) ≤ (1 : Int32).toInt64 ∧ (1 : Int32).toInt64 ≤ 5) = true from by decide)) ?_
  refine am_g 3 17 [some (.ref 47), some (.int (nI q)), some (.int 1), none] [.int (nI q), .ref 47] (hG σ sr ln Lc μ) rfl ?_
  refine am_call (y := 152) (vs := [.ref 47, .int (nI q)]) (rest := []) (v := (some (.int 1))) (h1 := (hG σ sr ln Lc μ)) rfl rfl rfl (sp_X12_isLine (σ := σ) (μ := μ) d _ hN (by omega) (am_in_of_nI hq (by omega))) ?_
  refine am_g 4 31 [some (.ref 47), some (.int (nI q)), some (.int 1), none] [.int (nI q), .ref 53] (hG σ sr ln Lc μ) rfl ?_
  refine am_ialdV (n := 40) (f := (μ 7)) (k := q) (w := 1) rfl rfl (rfl) (by omega) (by decide) (hs) ?_
  refine am_g 8 52 [some (.ref 47), some (.int (nI q)), some (.int 1), some (.int 1)] [.int 1] (hG σ sr ln Lc μ) rfl ?_
  refine am_g 5 61 [some (.ref 47), some (.int (nI q)), some (.int 1), some (.int 1)] [.int (nI q), .ref 54] (hG σ sr ln Lc μ) rfl ?_
  refine am_ialdR (n := 40) (f := (μ 8)) (k := q) rfl rfl (rfl) (by omega) (by decide) ?_
  refine am_g 1 67 [some (.ref 47), some (.int (nI q)), some (.int 1), some (.int 1)] [.int (μ 8 q)] (hG σ sr ln Lc μ) rfl ?_
  exact am_ret2 rfl rfl rfl rfl rfl
theorem sp_X12_taken_12 (d : Nat) {N : Nat} (hN : μ 17 0 = nI N) (hN40 : N ≤ 40) (q : Nat) (hq : q < N) (hs : μ 7 q = 1) : am_X xs LL (d + 3) 208 [.ref 47, .int (nI q), .int 2] (hG σ sr ln Lc μ) (some (.int (-13))) (hG σ sr ln Lc μ) := by
  refine am_XR (d := d + 2) (C := cd_X12_taken) (L := [some (.ref 47), some (.int (nI q)), some (.int 2), none]) rfl rfl rfl rfl ?_
  refine am_g 4 6 [some (.ref 47), some (.int (nI q)), some (.int 2), none] [.long 5, .long 0, .long ((2 : Int32).toInt64)] (hG σ sr ln Lc μ) rfl ?_
  refine am_call (y := 140) (vs := [.long ((2 : Int32).toInt64), .long 0, .long 5]) (rest := []) (v := (some (.int 1))) (h1 := (hG σ sr ln Lc μ)) rfl rfl rfl (sp_X12_in_b (d + 1) _ _ _ _ (show decide ((0 : Int64) ≤ (2 : Int32).toInt64 ∧ (2 : Int32).toInt64 ≤ 5) = true from by decide)) ?_
  refine am_g 3 17 [some (.ref 47), some (.int (nI q)), some (.int 2), none] [.int (nI q), .ref 47] (hG σ sr ln Lc μ) rfl ?_
  refine am_call (y := 152) (vs := [.ref 47, .int (nI q)]) (rest := []) (v := (some (.int 1))) (h1 := (hG σ sr ln Lc μ)) rfl rfl rfl (sp_X12_isLine (σ := σ) (μ := μ) d _ hN (by omega) (am_in_of_nI hq (by omega))) ?_
  refine am_g 4 31 [some (.ref 47), some (.int (nI q)), some (.int 2), none] [.int (nI q), .ref 53] (hG σ sr ln Lc μ) rfl ?_
  refine am_ialdV (n := 40) (f := (μ 7)) (k := q) (w := 1) rfl rfl (rfl) (by omega) (by decide) (hs) ?_
  refine am_g 8 44 [some (.ref 47), some (.int (nI q)), some (.int 2), some (.int 1)] [.int 1] (hG σ sr ln Lc μ) rfl ?_
  refine am_call (y := 207) (vs := [.int 1]) (rest := []) (v := (some (.int 0))) (h1 := (hG σ sr ln Lc μ)) rfl rfl rfl (sp_X12_over_1 (d + 1) _) ?_
  refine am_g 8 43 [some (.ref 47), some (.int (nI q)), some (.int 2), some (.int 0)] [] (hG σ sr ln Lc μ) rfl ?_
  refine am_g 1 44 [some (.ref 47), some (.int (nI q)), some (.int 2), some (.int 0)] [.int 0] (hG σ sr ln Lc μ) rfl ?_
  refine am_call (y := 207) (vs := [.int 0]) (rest := []) (v := (some (.int (-1)))) (h1 := (hG σ sr ln Lc μ)) rfl rfl rfl (sp_X12_over_0 (d + 1) _) ?_
  refine am_g 8 65 [some (.ref 47), some (.int (nI q)), some (.int 2), some (.int (-1))] [] (hG σ sr ln Lc μ) rfl ?_
  refine am_g 1 67 [some (.ref 47), some (.int (nI q)), some (.int 2), some (.int (-1))] [.int (-13)] (hG σ sr ln Lc μ) rfl ?_
  exact am_ret2 rfl rfl rfl rfl rfl
theorem sp_X12_taken_13 (d : Nat) {N : Nat} (hN : μ 17 0 = nI N) (hN40 : N ≤ 40) (q : Nat) (hq : q < N) (hs : μ 7 q = 1) : am_X xs LL (d + 3) 208 [.ref 47, .int (nI q), .int 3] (hG σ sr ln Lc μ) (some (.int (-13))) (hG σ sr ln Lc μ) := by
  refine am_XR (d := d + 2) (C := cd_X12_taken) (L := [some (.ref 47), some (.int (nI q)), some (.int 3), none]) rfl rfl rfl rfl ?_
  refine am_g 4 6 [some (.ref 47), some (.int (nI q)), some (.int 3), none] [.long 5, .long 0, .long ((3 : Int32).toInt64)] (hG σ sr ln Lc μ) rfl ?_
  refine am_call (y := 140) (vs := [.long ((3 : Int32).toInt64), .long 0, .long 5]) (rest := []) (v := (some (.int 1))) (h1 := (hG σ sr ln Lc μ)) rfl rfl rfl (sp_X12_in_b (d + 1) _ _ _ _ (show decide ((0 : Int64) ≤ (3 : Int32).toInt64 ∧ (3 : Int32).toInt64 ≤ 5) = true from by decide)) ?_
  refine am_g 3 17 [some (.ref 47), some (.int (nI q)), some (.int 3), none] [.int (nI q), .ref 47] (hG σ sr ln Lc μ) rfl ?_
  refine am_call (y := 152) (vs := [.ref 47, .int (nI q)]) (rest := []) (v := (some (.int 1))) (h1 := (hG σ sr ln Lc μ)) rfl rfl rfl (sp_X12_isLine (σ := σ) (μ := μ) d _ hN (by omega) (am_in_of_nI hq (by omega))) ?_
  refine am_g 4 31 [some (.ref 47), some (.int (nI q)), some (.int 3), none] [.int (nI q), .ref 53] (hG σ sr ln Lc μ) rfl ?_
  refine am_ialdV (n := 40) (f := (μ 7)) (k := q) (w := 1) rfl rfl (rfl) (by omega) (by decide) (hs) ?_
  refine am_g 8 44 [some (.ref 47), some (.int (nI q)), some (.int 3), some (.int 1)] [.int 1] (hG σ sr ln Lc μ) rfl ?_
  refine am_call (y := 207) (vs := [.int 1]) (rest := []) (v := (some (.int 0))) (h1 := (hG σ sr ln Lc μ)) rfl rfl rfl (sp_X12_over_1 (d + 1) _) ?_
  refine am_g 8 43 [some (.ref 47), some (.int (nI q)), some (.int 3), some (.int 0)] [] (hG σ sr ln Lc μ) rfl ?_
  refine am_g 1 44 [some (.ref 47), some (.int (nI q)), some (.int 3), some (.int 0)] [.int 0] (hG σ sr ln Lc μ) rfl ?_
  refine am_call (y := 207) (vs := [.int 0]) (rest := []) (v := (some (.int (-1)))) (h1 := (hG σ sr ln Lc μ)) rfl rfl rfl (sp_X12_over_0 (d + 1) _) ?_
  refine am_g 8 65 [some (.ref 47), some (.int (nI q)), some (.int 3), some (.int (-1))] [] (hG σ sr ln Lc μ) rfl ?_
  refine am_g 1 67 [some (.ref 47), some (.int (nI q)), some (.int 3), some (.int (-1))] [.int (-13)] (hG σ sr ln Lc μ) rfl ?_
  exact am_ret2 rfl rfl rfl rfl rfl
theorem sp_X12_taken_14 (d : Nat) {N : Nat} (hN : μ 17 0 = nI N) (hN40 : N ≤ 40) (q : Nat) (hq : q < N) (hs : μ 7 q = 1) : am_X xs LL (d + 3) 208 [.ref 47, .int (nI q), .int 4] (hG σ sr ln Lc μ) (some (.int (-13))) (hG σ sr ln Lc μ) := by
  refine am_XR (d := d + 2) (C := cd_X12_taken) (L := [some (.ref 47), some (.int (nI q)), some (.int 4), none]) rfl rfl rfl rfl ?_
  refine am_g 4 6 [some (.ref 47), some (.int (nI q)), some (.int 4), none] [.long 5, .long 0, .long ((4 : Int32).toInt64)] (hG σ sr ln Lc μ) rfl ?_
  refine am_call (y := 140) (vs := [.long ((4 : Int32).toInt64), .long 0, .long 5]) (rest := []) (v := (some (.int 1))) (h1 := (hG σ sr ln Lc μ)) rfl rfl rfl (sp_X12_in_b (d + 1) _ _ _ _ (show decide ((0 : Int64) ≤ (4 : Int32).toInt64 ∧ (4 : Int32).toInt64 ≤ 5) = true from by decide)) ?_
  refine am_g 3 17 [some (.ref 47), some (.int (nI q)), some (.int 4), none] [.int (nI q), .ref 47] (hG σ sr ln Lc μ) rfl ?_
  refine am_call (y := 152) (vs := [.ref 47, .int (nI q)]) (rest := []) (v := (some (.int 1))) (h1 := (hG σ sr ln Lc μ)) rfl rfl rfl (sp_X12_isLine (σ := σ) (μ := μ) d _ hN (by omega) (am_in_of_nI hq (by omega))) ?_
  refine am_g 4 31 [some (.ref 47), some (.int (nI q)), some (.int 4), none] [.int (nI q), .ref 53] (hG σ sr ln Lc μ) rfl ?_
  refine am_ialdV (n := 40) (f := (μ 7)) (k := q) (w := 1) rfl rfl (rfl) (by omega) (by decide) (hs) ?_
  refine am_g 8 44 [some (.ref 47), some (.int (nI q)), some (.int 4), some (.int 1)] [.int 1] (hG σ sr ln Lc μ) rfl ?_
  refine am_call (y := 207) (vs := [.int 1]) (rest := []) (v := (some (.int 0))) (h1 := (hG σ sr ln Lc μ)) rfl rfl rfl (sp_X12_over_1 (d + 1) _) ?_
  refine am_g 8 43 [some (.ref 47), some (.int (nI q)), some (.int 4), some (.int 0)] [] (hG σ sr ln Lc μ) rfl ?_
  refine am_g 1 44 [some (.ref 47), some (.int (nI q)), some (.int 4), some (.int 0)] [.int 0] (hG σ sr ln Lc μ) rfl ?_
  refine am_call (y := 207) (vs := [.int 0]) (rest := []) (v := (some (.int (-1)))) (h1 := (hG σ sr ln Lc μ)) rfl rfl rfl (sp_X12_over_0 (d + 1) _) ?_
  refine am_g 8 65 [some (.ref 47), some (.int (nI q)), some (.int 4), some (.int (-1))] [] (hG σ sr ln Lc μ) rfl ?_
  refine am_g 1 67 [some (.ref 47), some (.int (nI q)), some (.int 4), some (.int (-1))] [.int (-13)] (hG σ sr ln Lc μ) rfl ?_
  exact am_ret2 rfl rfl rfl rfl rfl
theorem sp_X12_taken_15 (d : Nat) {N : Nat} (hN : μ 17 0 = nI N) (hN40 : N ≤ 40) (q : Nat) (hq : q < N) (hs : μ 7 q = 1) : am_X xs LL (d + 3) 208 [.ref 47, .int (nI q), .int 5] (hG σ sr ln Lc μ) (some (.int (-13))) (hG σ sr ln Lc μ) := by
  refine am_XR (d := d + 2) (C := cd_X12_taken) (L := [some (.ref 47), some (.int (nI q)), some (.int 5), none]) rfl rfl rfl rfl ?_
  refine am_g 4 6 [some (.ref 47), some (.int (nI q)), some (.int 5), none] [.long 5, .long 0, .long ((5 : Int32).toInt64)] (hG σ sr ln Lc μ) rfl ?_
  refine am_call (y := 140) (vs := [.long ((5 : Int32).toInt64), .long 0, .long 5]) (rest := []) (v := (some (.int 1))) (h1 := (hG σ sr ln Lc μ)) rfl rfl rfl (sp_X12_in_b (d + 1) _ _ _ _ (show decide ((0 : Int64) ≤ (5 : Int32).toInt64 ∧ (5 : Int32).toInt64 ≤ 5) = true from by decide)) ?_
  refine am_g 3 17 [some (.ref 47), some (.int (nI q)), some (.int 5), none] [.int (nI q), .ref 47] (hG σ sr ln Lc μ) rfl ?_
  refine am_call (y := 152) (vs := [.ref 47, .int (nI q)]) (rest := []) (v := (some (.int 1))) (h1 := (hG σ sr ln Lc μ)) rfl rfl rfl (sp_X12_isLine (σ := σ) (μ := μ) d _ hN (by omega) (am_in_of_nI hq (by omega))) ?_
  refine am_g 4 31 [some (.ref 47), some (.int (nI q)), some (.int 5), none] [.int (nI q), .ref 53] (hG σ sr ln Lc μ) rfl ?_
  refine am_ialdV (n := 40) (f := (μ 7)) (k := q) (w := 1) rfl rfl (rfl) (by omega) (by decide) (hs) ?_
  refine am_g 8 44 [some (.ref 47), some (.int (nI q)), some (.int 5), some (.int 1)] [.int 1] (hG σ sr ln Lc μ) rfl ?_
  refine am_call (y := 207) (vs := [.int 1]) (rest := []) (v := (some (.int 0))) (h1 := (hG σ sr ln Lc μ)) rfl rfl rfl (sp_X12_over_1 (d + 1) _) ?_
  refine am_g 8 43 [some (.ref 47), some (.int (nI q)), some (.int 5), some (.int 0)] [] (hG σ sr ln Lc μ) rfl ?_
  refine am_g 1 44 [some (.ref 47), some (.int (nI q)), some (.int 5), some (.int 0)] [.int 0] (hG σ sr ln Lc μ) rfl ?_
  refine am_call (y := 207) (vs := [.int 0]) (rest := []) (v := (some (.int (-1)))) (h1 := (hG σ sr ln Lc μ)) rfl rfl rfl (sp_X12_over_0 (d + 1) _) ?_
  refine am_g 8 65 [some (.ref 47), some (.int (nI q)), some (.int 5), some (.int (-1))] [] (hG σ sr ln Lc μ) rfl ?_
  refine am_g 1 67 [some (.ref 47), some (.int (nI q)), some (.int 5), some (.int (-1))] [.int (-13)] (hG σ sr ln Lc μ) rfl ?_
  exact am_ret2 rfl rfl rfl rfl rfl
theorem sp_X12_taken_20 (d : Nat) {N : Nat} (hN : μ 17 0 = nI N) (hN40 : N ≤ 40) (q : Nat) (hq : q < N) (hs : μ 7 q = 2) : am_X xs LL (d + 3) 208 [.ref 47, .int (nI q), .int 0] (hG σ sr ln Lc μ) (some (.int (μ 8 q))) (hG σ sr ln Lc μ) := by
  refine am_XR (d := d + 2) (C := cd_X12_taken) (L := [some (.ref 47), some (.int (nI q)), some (.int 0), none]) rfl rfl rfl rfl ?_
  refine am_g 4 6 [some (.ref 47), some (.int (nI q)), some (.int 0), none] [.long 5, .long 0, .long ((0 : Int32).toInt64)] (hG σ sr ln Lc μ) rfl ?_
  refine am_call (y := 140) (vs := [.long ((0 : Int32).toInt64), .long 0, .long 5]) (rest := []) (v := (some (.int 1))) (h1 := (hG σ sr ln Lc μ)) rfl rfl rfl (sp_X12_in_b (d + 1) _ _ _ _ (show decide ((0 : Int64) ≤ (0 : Int32).toInt64 ∧ (0 : Int32).toInt64 ≤ 5) = true from by decide)) ?_
  refine am_g 3 17 [some (.ref 47), some (.int (nI q)), some (.int 0), none] [.int (nI q), .ref 47] (hG σ sr ln Lc μ) rfl ?_
  refine am_call (y := 152) (vs := [.ref 47, .int (nI q)]) (rest := []) (v := (some (.int 1))) (h1 := (hG σ sr ln Lc μ)) rfl rfl rfl (sp_X12_isLine (σ := σ) (μ := μ) d _ hN (by omega) (am_in_of_nI hq (by omega))) ?_
  refine am_g 4 31 [some (.ref 47), some (.int (nI q)), some (.int 0), none] [.int (nI q), .ref 53] (hG σ sr ln Lc μ) rfl ?_
  refine am_ialdV (n := 40) (f := (μ 7)) (k := q) (w := 2) rfl rfl (rfl) (by omega) (by decide) (hs) ?_
  refine am_g 8 44 [some (.ref 47), some (.int (nI q)), some (.int 0), some (.int 2)] [.int 2] (hG σ sr ln Lc μ) rfl ?_
  refine am_call (y := 207) (vs := [.int 2]) (rest := []) (v := (some (.int 0))) (h1 := (hG σ sr ln Lc μ)) rfl rfl rfl (sp_X12_over_2 (d + 1) _) ?_
  refine am_g 8 51 [some (.ref 47), some (.int (nI q)), some (.int 0), some (.int 0)] [] (hG σ sr ln Lc μ) rfl ?_
  refine am_g 6 61 [some (.ref 47), some (.int (nI q)), some (.int 0), some (.int 0)] [.int (nI q), .ref 54] (hG σ sr ln Lc μ) rfl ?_
  refine am_ialdR (n := 40) (f := (μ 8)) (k := q) rfl rfl (rfl) (by omega) (by decide) ?_
  refine am_g 1 67 [some (.ref 47), some (.int (nI q)), some (.int 0), some (.int 0)] [.int (μ 8 q)] (hG σ sr ln Lc μ) rfl ?_
  exact am_ret2 rfl rfl rfl rfl rfl
theorem sp_X12_taken_21 (d : Nat) {N : Nat} (hN : μ 17 0 = nI N) (hN40 : N ≤ 40) (q : Nat) (hq : q < N) (hs : μ 7 q = 2) : am_X xs LL (d + 3) 208 [.ref 47, .int (nI q), .int 1] (hG σ sr ln Lc μ) (some (.int (-13))) (hG σ sr ln Lc μ) := by
  refine am_XR (d := d + 2) (C := cd_X12_taken) (L := [some (.ref 47), some (.int (nI q)), some (.int 1), none]) rfl rfl rfl rfl ?_
  refine am_g 4 6 [some (.ref 47), some (.int (nI q)), some (.int 1), none] [.long 5, .long 0, .long ((1 : Int32).toInt64)] (hG σ sr ln Lc μ) rfl ?_
  refine am_call (y := 140) (vs := [.long ((1 : Int32).toInt64), .long 0, .long 5]) (rest := []) (v := (some (.int 1))) (h1 := (hG σ sr ln Lc μ)) rfl rfl rfl (sp_X12_in_b (d + 1) _ _ _ _ (show decide ((0 : Int64) ≤ (1 : Int32).toInt64 ∧ (1 : Int32).toInt64 ≤ 5) = true from by decide)) ?_
  refine am_g 3 17 [some (.ref 47), some (.int (nI q)), some (.int 1), none] [.int (nI q), .ref 47] (hG σ sr ln Lc μ) rfl ?_
  refine am_call (y := 152) (vs := [.ref 47, .int (nI q)]) (rest := []) (v := (some (.int 1))) (h1 := (hG σ sr ln Lc μ)) rfl rfl rfl (sp_X12_isLine (σ := σ) (μ := μ) d _ hN (by omega) (am_in_of_nI hq (by omega))) ?_
  refine am_g 4 31 [some (.ref 47), some (.int (nI q)), some (.int 1), none] [.int (nI q), .ref 53] (hG σ sr ln Lc μ) rfl ?_
  refine am_ialdV (n := 40) (f := (μ 7)) (k := q) (w := 2) rfl rfl (rfl) (by omega) (by decide) (hs) ?_
  refine am_g 8 44 [some (.ref 47), some (.int (nI q)), some (.int 1), some (.int 2)] [.int 2] (hG σ sr ln Lc μ) rfl ?_
  refine am_call (y := 207) (vs := [.int 2]) (rest := []) (v := (some (.int 0))) (h1 := (hG σ sr ln Lc μ)) rfl rfl rfl (sp_X12_over_2 (d + 1) _) ?_
  refine am_g 8 43 [some (.ref 47), some (.int (nI q)), some (.int 1), some (.int 0)] [] (hG σ sr ln Lc μ) rfl ?_
  refine am_g 1 44 [some (.ref 47), some (.int (nI q)), some (.int 1), some (.int 0)] [.int 0] (hG σ sr ln Lc μ) rfl ?_
  refine am_call (y := 207) (vs := [.int 0]) (rest := []) (v := (some (.int (-1)))) (h1 := (hG σ sr ln Lc μ)) rfl rfl rfl (sp_X12_over_0 (d + 1) _) ?_
  refine am_g 8 65 [some (.ref 47), some (.int (nI q)), some (.int 1), some (.int (-1))] [] (hG σ sr ln Lc μ) rfl ?_
  refine am_g 1 67 [some (.ref 47), some (.int (nI q)), some (.int 1), some (.int (-1))] [.int (-13)] (hG σ sr ln Lc μ) rfl ?_
  exact am_ret2 rfl rfl rfl rfl rfl
theorem sp_X12_taken_22 (d : Nat) {N : Nat} (hN : μ 17 0 = nI N) (hN40 : N ≤ 40) (q : Nat) (hq : q < N) (hs : μ 7 q = 2) : am_X xs LL (d + 3) 208 [.ref 47, .int (nI q), .int 2] (hG σ sr ln Lc μ) (some (.int (μ 8 q))) (hG σ sr ln Lc μ) := by
  refine am_XR (d := d + 2) (C := cd_X12_taken) (L := [some (.ref 47), some (.int (nI q)), some (.int 2), none]) rfl rfl rfl rfl ?_
  refine am_g 4 6 [some (.ref 47), some (.int (nI q)), some (.int 2), none] [.long 5, .long 0, .long ((2 : Int32).toInt64)] (hG σ sr ln Lc μ) rfl ?_
  refine am_call (y := 140) (vs := [.long ((2 : Int32).toInt64), .long 0, .long 5]) (rest := []) (v := (some (.int 1))) (h1 := (hG σ sr ln Lc μ)) rfl rfl rfl (sp_X12_in_b (d + 1) _ _ _ _ (show decide ((0 : Int64) ≤ (2 : Int32).toInt64 ∧ (2 : Int32).toInt64 ≤ 5) = true from by decide)) ?_
  refine am_g 3 17 [some (.ref 47), some (.int (nI q)), some (.int 2), none] [.int (nI q), .ref 47] (hG σ sr ln Lc μ) rfl ?_
  refine am_call (y := 152) (vs := [.ref 47, .int (nI q)]) (rest := []) (v := (some (.int 1))) (h1 := (hG σ sr ln Lc μ)) rfl rfl rfl (sp_X12_isLine (σ := σ) (μ := μ) d _ hN (by omega) (am_in_of_nI hq (by omega))) ?_
  refine am_g 4 31 [some (.ref 47), some (.int (nI q)), some (.int 2), none] [.int (nI q), .ref 53] (hG σ sr ln Lc μ) rfl ?_
  refine am_ialdV (n := 40) (f := (μ 7)) (k := q) (w := 2) rfl rfl (rfl) (by omega) (by decide) (hs) ?_
  refine am_g 8 52 [some (.ref 47), some (.int (nI q)), some (.int 2), some (.int 2)] [.int 2] (hG σ sr ln Lc μ) rfl ?_
  refine am_g 5 61 [some (.ref 47), some (.int (nI q)), some (.int 2), some (.int 2)] [.int (nI q), .ref 54] (hG σ sr ln Lc μ) rfl ?_
  refine am_ialdR (n := 40) (f := (μ 8)) (k := q) rfl rfl (rfl) (by omega) (by decide) ?_
  refine am_g 1 67 [some (.ref 47), some (.int (nI q)), some (.int 2), some (.int 2)] [.int (μ 8 q)] (hG σ sr ln Lc μ) rfl ?_
  exact am_ret2 rfl rfl rfl rfl rfl
theorem sp_X12_taken_23 (d : Nat) {N : Nat} (hN : μ 17 0 = nI N) (hN40 : N ≤ 40) (q : Nat) (hq : q < N) (hs : μ 7 q = 2) : am_X xs LL (d + 3) 208 [.ref 47, .int (nI q), .int 3] (hG σ sr ln Lc μ) (some (.int (-13))) (hG σ sr ln Lc μ) := by
  refine am_XR (d := d + 2) (C := cd_X12_taken) (L := [some (.ref 47), some (.int (nI q)), some (.int 3), none]) rfl rfl rfl rfl ?_
  refine am_g 4 6 [some (.ref 47), some (.int (nI q)), some (.int 3), none] [.long 5, .long 0, .long ((3 : Int32).toInt64)] (hG σ sr ln Lc μ) rfl ?_
  refine am_call (y := 140) (vs := [.long ((3 : Int32).toInt64), .long 0, .long 5]) (rest := []) (v := (some (.int 1))) (h1 := (hG σ sr ln Lc μ)) rfl rfl rfl (sp_X12_in_b (d + 1) _ _ _ _ (show decide ((0 : Int64) ≤ (3 : Int32).toInt64 ∧ (3 : Int32).toInt64 ≤ 5) = true from by decide)) ?_
  refine am_g 3 17 [some (.ref 47), some (.int (nI q)), some (.int 3), none] [.int (nI q), .ref 47] (hG σ sr ln Lc μ) rfl ?_
  refine am_call (y := 152) (vs := [.ref 47, .int (nI q)]) (rest := []) (v := (some (.int 1))) (h1 := (hG σ sr ln Lc μ)) rfl rfl rfl (sp_X12_isLine (σ := σ) (μ := μ) d _ hN (by omega) (am_in_of_nI hq (by omega))) ?_
  refine am_g 4 31 [some (.ref 47), some (.int (nI q)), some (.int 3), none] [.int (nI q), .ref 53] (hG σ sr ln Lc μ) rfl ?_
  refine am_ialdV (n := 40) (f := (μ 7)) (k := q) (w := 2) rfl rfl (rfl) (by omega) (by decide) (hs) ?_
  refine am_g 8 44 [some (.ref 47), some (.int (nI q)), some (.int 3), some (.int 2)] [.int 2] (hG σ sr ln Lc μ) rfl ?_
  refine am_call (y := 207) (vs := [.int 2]) (rest := []) (v := (some (.int 0))) (h1 := (hG σ sr ln Lc μ)) rfl rfl rfl (sp_X12_over_2 (d + 1) _) ?_
  refine am_g 8 43 [some (.ref 47), some (.int (nI q)), some (.int 3), some (.int 0)] [] (hG σ sr ln Lc μ) rfl ?_
  refine am_g 1 44 [some (.ref 47), some (.int (nI q)), some (.int 3), some (.int 0)] [.int 0] (hG σ sr ln Lc μ) rfl ?_
  refine am_call (y := 207) (vs := [.int 0]) (rest := []) (v := (some (.int (-1)))) (h1 := (hG σ sr ln Lc μ)) rfl rfl rfl (sp_X12_over_0 (d + 1) _) ?_
  refine am_g 8 65 [some (.ref 47), some (.int (nI q)), some (.int 3), some (.int (-1))] [] (hG σ sr ln Lc μ) rfl ?_
  refine am_g 1 67 [some (.ref 47), some (.int (nI q)), some (.int 3), some (.int (-1))] [.int (-13)] (hG σ sr ln Lc μ) rfl ?_
  exact am_ret2 rfl rfl rfl rfl rfl
theorem sp_X12_taken_24 (d : Nat) {N : Nat} (hN : μ 17 0 = nI N) (hN40 : N ≤ 40) (q : Nat) (hq : q < N) (hs : μ 7 q = 2) : am_X xs LL (d + 3) 208 [.ref 47, .int (nI q), .int 4] (hG σ sr ln Lc μ) (some (.int (-13))) (hG σ sr ln Lc μ) := by
  refine am_XR (d := d + 2) (C := cd_X12_taken) (L := [some (.ref 47), some (.int (nI q)), some (.int 4), none]) rfl rfl rfl rfl ?_
  refine am_g 4 6 [some (.ref 47), some (.int (nI q)), some (.int 4), none] [.long 5, .long 0, .long ((4 : Int32).toInt64)] (hG σ sr ln Lc μ) rfl ?_
  refine am_call (y := 140) (vs := [.long ((4 : Int32).toInt64), .long 0, .long 5]) (rest := []) (v := (some (.int 1))) (h1 := (hG σ sr ln Lc μ)) rfl rfl rfl (sp_X12_in_b (d + 1) _ _ _ _ (show decide ((0 : Int64) ≤ (4 : Int32).toInt64 ∧ (4 : Int32).toInt64 ≤ 5) = true from by decide)) ?_
  refine am_g 3 17 [some (.ref 47), some (.int (nI q)), some (.int 4), none] [.int (nI q), .ref 47] (hG σ sr ln Lc μ) rfl ?_
  refine am_call (y := 152) (vs := [.ref 47, .int (nI q)]) (rest := []) (v := (some (.int 1))) (h1 := (hG σ sr ln Lc μ)) rfl rfl rfl (sp_X12_isLine (σ := σ) (μ := μ) d _ hN (by omega) (am_in_of_nI hq (by omega))) ?_
  refine am_g 4 31 [some (.ref 47), some (.int (nI q)), some (.int 4), none] [.int (nI q), .ref 53] (hG σ sr ln Lc μ) rfl ?_
  refine am_ialdV (n := 40) (f := (μ 7)) (k := q) (w := 2) rfl rfl (rfl) (by omega) (by decide) (hs) ?_
  refine am_g 8 44 [some (.ref 47), some (.int (nI q)), some (.int 4), some (.int 2)] [.int 2] (hG σ sr ln Lc μ) rfl ?_
  refine am_call (y := 207) (vs := [.int 2]) (rest := []) (v := (some (.int 0))) (h1 := (hG σ sr ln Lc μ)) rfl rfl rfl (sp_X12_over_2 (d + 1) _) ?_
  refine am_g 8 43 [some (.ref 47), some (.int (nI q)), some (.int 4), some (.int 0)] [] (hG σ sr ln Lc μ) rfl ?_
  refine am_g 1 44 [some (.ref 47), some (.int (nI q)), some (.int 4), some (.int 0)] [.int 0] (hG σ sr ln Lc μ) rfl ?_
  refine am_call (y := 207) (vs := [.int 0]) (rest := []) (v := (some (.int (-1)))) (h1 := (hG σ sr ln Lc μ)) rfl rfl rfl (sp_X12_over_0 (d + 1) _) ?_
  refine am_g 8 65 [some (.ref 47), some (.int (nI q)), some (.int 4), some (.int (-1))] [] (hG σ sr ln Lc μ) rfl ?_
  refine am_g 1 67 [some (.ref 47), some (.int (nI q)), some (.int 4), some (.int (-1))] [.int (-13)] (hG σ sr ln Lc μ) rfl ?_
  exact am_ret2 rfl rfl rfl rfl rfl
theorem sp_X12_taken_25 (d : Nat) {N : Nat} (hN : μ 17 0 = nI N) (hN40 : N ≤ 40) (q : Nat) (hq : q < N) (hs : μ 7 q = 2) : am_X xs LL (d + 3) 208 [.ref 47, .int (nI q), .int 5] (hG σ sr ln Lc μ) (some (.int (-13))) (hG σ sr ln Lc μ) := by
  refine am_XR (d := d + 2) (C := cd_X12_taken) (L := [some (.ref 47), some (.int (nI q)), some (.int 5), none]) rfl rfl rfl rfl ?_
  refine am_g 4 6 [some (.ref 47), some (.int (nI q)), some (.int 5), none] [.long 5, .long 0, .long ((5 : Int32).toInt64)] (hG σ sr ln Lc μ) rfl ?_
  refine am_call (y := 140) (vs := [.long ((5 : Int32).toInt64), .long 0, .long 5]) (rest := []) (v := (some (.int 1))) (h1 := (hG σ sr ln Lc μ)) rfl rfl rfl (sp_X12_in_b (d + 1) _ _ _ _ (show decide ((0 : Int64) ≤ (5 : Int32).toInt64 ∧ (5 : Int32).toInt64 ≤ 5) = true from by decide)) ?_
  refine am_g 3 17 [some (.ref 47), some (.int (nI q)), some (.int 5), none] [.int (nI q), .ref 47] (hG σ sr ln Lc μ) rfl ?_
  refine am_call (y := 152) (vs := [.ref 47, .int (nI q)]) (rest := []) (v := (some (.int 1))) (h1 := (hG σ sr ln Lc μ)) rfl rfl rfl (sp_X12_isLine (σ := σ) (μ := μ) d _ hN (by omega) (am_in_of_nI hq (by omega))) ?_
  refine am_g 4 31 [some (.ref 47), some (.int (nI q)), some (.int 5), none] [.int (nI q), .ref 53] (hG σ sr ln Lc μ) rfl ?_
  refine am_ialdV (n := 40) (f := (μ 7)) (k := q) (w := 2) rfl rfl (rfl) (by omega) (by decide) (hs) ?_
  refine am_g 8 44 [some (.ref 47), some (.int (nI q)), some (.int 5), some (.int 2)] [.int 2] (hG σ sr ln Lc μ) rfl ?_
  refine am_call (y := 207) (vs := [.int 2]) (rest := []) (v := (some (.int 0))) (h1 := (hG σ sr ln Lc μ)) rfl rfl rfl (sp_X12_over_2 (d + 1) _) ?_
  refine am_g 8 43 [some (.ref 47), some (.int (nI q)), some (.int 5), some (.int 0)] [] (hG σ sr ln Lc μ) rfl ?_
  refine am_g 1 44 [some (.ref 47), some (.int (nI q)), some (.int 5), some (.int 0)] [.int 0] (hG σ sr ln Lc μ) rfl ?_
  refine am_call (y := 207) (vs := [.int 0]) (rest := []) (v := (some (.int (-1)))) (h1 := (hG σ sr ln Lc μ)) rfl rfl rfl (sp_X12_over_0 (d + 1) _) ?_
  refine am_g 8 65 [some (.ref 47), some (.int (nI q)), some (.int 5), some (.int (-1))] [] (hG σ sr ln Lc μ) rfl ?_
  refine am_g 1 67 [some (.ref 47), some (.int (nI q)), some (.int 5), some (.int (-1))] [.int (-13)] (hG σ sr ln Lc μ) rfl ?_
  exact am_ret2 rfl rfl rfl rfl rfl
theorem sp_X12_taken_30 (d : Nat) {N : Nat} (hN : μ 17 0 = nI N) (hN40 : N ≤ 40) (q : Nat) (hq : q < N) (hs : μ 7 q = 3) : am_X xs LL (d + 3) 208 [.ref 47, .int (nI q), .int 0] (hG σ sr ln Lc μ) (some (.int (μ 8 q))) (hG σ sr ln Lc μ) := by
  refine am_XR (d := d + 2) (C := cd_X12_taken) (L := [some (.ref 47), some (.int (nI q)), some (.int 0), none]) rfl rfl rfl rfl ?_
  refine am_g 4 6 [some (.ref 47), some (.int (nI q)), some (.int 0), none] [.long 5, .long 0, .long ((0 : Int32).toInt64)] (hG σ sr ln Lc μ) rfl ?_
  refine am_call (y := 140) (vs := [.long ((0 : Int32).toInt64), .long 0, .long 5]) (rest := []) (v := (some (.int 1))) (h1 := (hG σ sr ln Lc μ)) rfl rfl rfl (sp_X12_in_b (d + 1) _ _ _ _ (show decide ((0 : Int64) ≤ (0 : Int32).toInt64 ∧ (0 : Int32).toInt64 ≤ 5) = true from by decide)) ?_
  refine am_g 3 17 [some (.ref 47), some (.int (nI q)), some (.int 0), none] [.int (nI q), .ref 47] (hG σ sr ln Lc μ) rfl ?_
  refine am_call (y := 152) (vs := [.ref 47, .int (nI q)]) (rest := []) (v := (some (.int 1))) (h1 := (hG σ sr ln Lc μ)) rfl rfl rfl (sp_X12_isLine (σ := σ) (μ := μ) d _ hN (by omega) (am_in_of_nI hq (by omega))) ?_
  refine am_g 4 31 [some (.ref 47), some (.int (nI q)), some (.int 0), none] [.int (nI q), .ref 53] (hG σ sr ln Lc μ) rfl ?_
  refine am_ialdV (n := 40) (f := (μ 7)) (k := q) (w := 3) rfl rfl (rfl) (by omega) (by decide) (hs) ?_
  refine am_g 8 44 [some (.ref 47), some (.int (nI q)), some (.int 0), some (.int 3)] [.int 3] (hG σ sr ln Lc μ) rfl ?_
  refine am_call (y := 207) (vs := [.int 3]) (rest := []) (v := (some (.int 2))) (h1 := (hG σ sr ln Lc μ)) rfl rfl rfl (sp_X12_over_3 (d + 1) _) ?_
  refine am_g 8 43 [some (.ref 47), some (.int (nI q)), some (.int 0), some (.int 2)] [] (hG σ sr ln Lc μ) rfl ?_
  refine am_g 1 44 [some (.ref 47), some (.int (nI q)), some (.int 0), some (.int 2)] [.int 2] (hG σ sr ln Lc μ) rfl ?_
  refine am_call (y := 207) (vs := [.int 2]) (rest := []) (v := (some (.int 0))) (h1 := (hG σ sr ln Lc μ)) rfl rfl rfl (sp_X12_over_2 (d + 1) _) ?_
  refine am_g 8 51 [some (.ref 47), some (.int (nI q)), some (.int 0), some (.int 0)] [] (hG σ sr ln Lc μ) rfl ?_
  refine am_g 6 61 [some (.ref 47), some (.int (nI q)), some (.int 0), some (.int 0)] [.int (nI q), .ref 54] (hG σ sr ln Lc μ) rfl ?_
  refine am_ialdR (n := 40) (f := (μ 8)) (k := q) rfl rfl (rfl) (by omega) (by decide) ?_
  refine am_g 1 67 [some (.ref 47), some (.int (nI q)), some (.int 0), some (.int 0)] [.int (μ 8 q)] (hG σ sr ln Lc μ) rfl ?_
  exact am_ret2 rfl rfl rfl rfl rfl
theorem sp_X12_taken_31 (d : Nat) {N : Nat} (hN : μ 17 0 = nI N) (hN40 : N ≤ 40) (q : Nat) (hq : q < N) (hs : μ 7 q = 3) : am_X xs LL (d + 3) 208 [.ref 47, .int (nI q), .int 1] (hG σ sr ln Lc μ) (some (.int (-13))) (hG σ sr ln Lc μ) := by
  refine am_XR (d := d + 2) (C := cd_X12_taken) (L := [some (.ref 47), some (.int (nI q)), some (.int 1), none]) rfl rfl rfl rfl ?_
  refine am_g 4 6 [some (.ref 47), some (.int (nI q)), some (.int 1), none] [.long 5, .long 0, .long ((1 : Int32).toInt64)] (hG σ sr ln Lc μ) rfl ?_
  refine am_call (y := 140) (vs := [.long ((1 : Int32).toInt64), .long 0, .long 5]) (rest := []) (v := (some (.int 1))) (h1 := (hG σ sr ln Lc μ)) rfl rfl rfl (sp_X12_in_b (d + 1) _ _ _ _ (show decide ((0 : Int64) ≤ (1 : Int32).toInt64 ∧ (1 : Int32).toInt64 ≤ 5) = true from by decide)) ?_
  refine am_g 3 17 [some (.ref 47), some (.int (nI q)), some (.int 1), none] [.int (nI q), .ref 47] (hG σ sr ln Lc μ) rfl ?_
  refine am_call (y := 152) (vs := [.ref 47, .int (nI q)]) (rest := []) (v := (some (.int 1))) (h1 := (hG σ sr ln Lc μ)) rfl rfl rfl (sp_X12_isLine (σ := σ) (μ := μ) d _ hN (by omega) (am_in_of_nI hq (by omega))) ?_
  refine am_g 4 31 [some (.ref 47), some (.int (nI q)), some (.int 1), none] [.int (nI q), .ref 53] (hG σ sr ln Lc μ) rfl ?_
  refine am_ialdV (n := 40) (f := (μ 7)) (k := q) (w := 3) rfl rfl (rfl) (by omega) (by decide) (hs) ?_
  refine am_g 8 44 [some (.ref 47), some (.int (nI q)), some (.int 1), some (.int 3)] [.int 3] (hG σ sr ln Lc μ) rfl ?_
  refine am_call (y := 207) (vs := [.int 3]) (rest := []) (v := (some (.int 2))) (h1 := (hG σ sr ln Lc μ)) rfl rfl rfl (sp_X12_over_3 (d + 1) _) ?_
  refine am_g 8 43 [some (.ref 47), some (.int (nI q)), some (.int 1), some (.int 2)] [] (hG σ sr ln Lc μ) rfl ?_
  refine am_g 1 44 [some (.ref 47), some (.int (nI q)), some (.int 1), some (.int 2)] [.int 2] (hG σ sr ln Lc μ) rfl ?_
  refine am_call (y := 207) (vs := [.int 2]) (rest := []) (v := (some (.int 0))) (h1 := (hG σ sr ln Lc μ)) rfl rfl rfl (sp_X12_over_2 (d + 1) _) ?_
  refine am_g 8 43 [some (.ref 47), some (.int (nI q)), some (.int 1), some (.int 0)] [] (hG σ sr ln Lc μ) rfl ?_
  refine am_g 1 44 [some (.ref 47), some (.int (nI q)), some (.int 1), some (.int 0)] [.int 0] (hG σ sr ln Lc μ) rfl ?_
  refine am_call (y := 207) (vs := [.int 0]) (rest := []) (v := (some (.int (-1)))) (h1 := (hG σ sr ln Lc μ)) rfl rfl rfl (sp_X12_over_0 (d + 1) _) ?_
  refine am_g 8 65 [some (.ref 47), some (.int (nI q)), some (.int 1), some (.int (-1))] [] (hG σ sr ln Lc μ) rfl ?_
  refine am_g 1 67 [some (.ref 47), some (.int (nI q)), some (.int 1), some (.int (-1))] [.int (-13)] (hG σ sr ln Lc μ) rfl ?_
  exact am_ret2 rfl rfl rfl rfl rfl
theorem sp_X12_taken_32 (d : Nat) {N : Nat} (hN : μ 17 0 = nI N) (hN40 : N ≤ 40) (q : Nat) (hq : q < N) (hs : μ 7 q = 3) : am_X xs LL (d + 3) 208 [.ref 47, .int (nI q), .int 2] (hG σ sr ln Lc μ) (some (.int (μ 8 q))) (hG σ sr ln Lc μ) := by
  refine am_XR (d := d + 2) (C := cd_X12_taken) (L := [some (.ref 47), some (.int (nI q)), some (.int 2), none]) rfl rfl rfl rfl ?_
  refine am_g 4 6 [some (.ref 47), some (.int (nI q)), some (.int 2), none] [.long 5, .long 0, .long ((2 : Int32).toInt64)] (hG σ sr ln Lc μ) rfl ?_
  refine am_call (y := 140) (vs := [.long ((2 : Int32).toInt64), .long 0, .long 5]) (rest := []) (v := (some (.int 1))) (h1 := (hG σ sr ln Lc μ)) rfl rfl rfl (sp_X12_in_b (d + 1) _ _ _ _ (show decide ((0 : Int64) ≤ (2 : Int32).toInt64 ∧ (2 : Int32).toInt64 ≤ 5) = true from by decide)) ?_
  refine am_g 3 17 [some (.ref 47), some (.int (nI q)), some (.int 2), none] [.int (nI q), .ref 47] (hG σ sr ln Lc μ) rfl ?_
  refine am_call (y := 152) (vs := [.ref 47, .int (nI q)]) (rest := []) (v := (some (.int 1))) (h1 := (hG σ sr ln Lc μ)) rfl rfl rfl (sp_X12_isLine (σ := σ) (μ := μ) d _ hN (by omega) (am_in_of_nI hq (by omega))) ?_
  refine am_g 4 31 [some (.ref 47), some (.int (nI q)), some (.int 2), none] [.int (nI q), .ref 53] (hG σ sr ln Lc μ) rfl ?_
  refine am_ialdV (n := 40) (f := (μ 7)) (k := q) (w := 3) rfl rfl (rfl) (by omega) (by decide) (hs) ?_
  refine am_g 8 44 [some (.ref 47), some (.int (nI q)), some (.int 2), some (.int 3)] [.int 3] (hG σ sr ln Lc μ) rfl ?_
  refine am_call (y := 207) (vs := [.int 3]) (rest := []) (v := (some (.int 2))) (h1 := (hG σ sr ln Lc μ)) rfl rfl rfl (sp_X12_over_3 (d + 1) _) ?_
  refine am_g 8 51 [some (.ref 47), some (.int (nI q)), some (.int 2), some (.int 2)] [] (hG σ sr ln Lc μ) rfl ?_
  refine am_g 6 61 [some (.ref 47), some (.int (nI q)), some (.int 2), some (.int 2)] [.int (nI q), .ref 54] (hG σ sr ln Lc μ) rfl ?_
  refine am_ialdR (n := 40) (f := (μ 8)) (k := q) rfl rfl (rfl) (by omega) (by decide) ?_
  refine am_g 1 67 [some (.ref 47), some (.int (nI q)), some (.int 2), some (.int 2)] [.int (μ 8 q)] (hG σ sr ln Lc μ) rfl ?_
  exact am_ret2 rfl rfl rfl rfl rfl
theorem sp_X12_taken_33 (d : Nat) {N : Nat} (hN : μ 17 0 = nI N) (hN40 : N ≤ 40) (q : Nat) (hq : q < N) (hs : μ 7 q = 3) : am_X xs LL (d + 3) 208 [.ref 47, .int (nI q), .int 3] (hG σ sr ln Lc μ) (some (.int (μ 8 q))) (hG σ sr ln Lc μ) := by
  refine am_XR (d := d + 2) (C := cd_X12_taken) (L := [some (.ref 47), some (.int (nI q)), some (.int 3), none]) rfl rfl rfl rfl ?_
  refine am_g 4 6 [some (.ref 47), some (.int (nI q)), some (.int 3), none] [.long 5, .long 0, .long ((3 : Int32).toInt64)] (hG σ sr ln Lc μ) rfl ?_
  refine am_call (y := 140) (vs := [.long ((3 : Int32).toInt64), .long 0, .long 5]) (rest := []) (v := (some (.int 1))) (h1 := (hG σ sr ln Lc μ)) rfl rfl rfl (sp_X12_in_b (d + 1) _ _ _ _ (show decide ((0 : Int64) ≤ (3 : Int32).toInt64 ∧ (3 : Int32).toInt64 ≤ 5) = true from by decide)) ?_
  refine am_g 3 17 [some (.ref 47), some (.int (nI q)), some (.int 3), none] [.int (nI q), .ref 47] (hG σ sr ln Lc μ) rfl ?_
  refine am_call (y := 152) (vs := [.ref 47, .int (nI q)]) (rest := []) (v := (some (.int 1))) (h1 := (hG σ sr ln Lc μ)) rfl rfl rfl (sp_X12_isLine (σ := σ) (μ := μ) d _ hN (by omega) (am_in_of_nI hq (by omega))) ?_
  refine am_g 4 31 [some (.ref 47), some (.int (nI q)), some (.int 3), none] [.int (nI q), .ref 53] (hG σ sr ln Lc μ) rfl ?_
  refine am_ialdV (n := 40) (f := (μ 7)) (k := q) (w := 3) rfl rfl (rfl) (by omega) (by decide) (hs) ?_
  refine am_g 8 52 [some (.ref 47), some (.int (nI q)), some (.int 3), some (.int 3)] [.int 3] (hG σ sr ln Lc μ) rfl ?_
  refine am_g 5 61 [some (.ref 47), some (.int (nI q)), some (.int 3), some (.int 3)] [.int (nI q), .ref 54] (hG σ sr ln Lc μ) rfl ?_
  refine am_ialdR (n := 40) (f := (μ 8)) (k := q) rfl rfl (rfl) (by omega) (by decide) ?_
  refine am_g 1 67 [some (.ref 47), some (.int (nI q)), some (.int 3), some (.int 3)] [.int (μ 8 q)] (hG σ sr ln Lc μ) rfl ?_
  exact am_ret2 rfl rfl rfl rfl rfl
theorem sp_X12_taken_34 (d : Nat) {N : Nat} (hN : μ 17 0 = nI N) (hN40 : N ≤ 40) (q : Nat) (hq : q < N) (hs : μ 7 q = 3) : am_X xs LL (d + 3) 208 [.ref 47, .int (nI q), .int 4] (hG σ sr ln Lc μ) (some (.int (-13))) (hG σ sr ln Lc μ) := by
  refine am_XR (d := d + 2) (C := cd_X12_taken) (L := [some (.ref 47), some (.int (nI q)), some (.int 4), none]) rfl rfl rfl rfl ?_
  refine am_g 4 6 [some (.ref 47), some (.int (nI q)), some (.int 4), none] [.long 5, .long 0, .long ((4 : Int32).toInt64)] (hG σ sr ln Lc μ) rfl ?_
  refine am_call (y := 140) (vs := [.long ((4 : Int32).toInt64), .long 0, .long 5]) (rest := []) (v := (some (.int 1))) (h1 := (hG σ sr ln Lc μ)) rfl rfl rfl (sp_X12_in_b (d + 1) _ _ _ _ (show decide ((0 : Int64) ≤ (4 : Int32).toInt64 ∧ (4 : Int32).toInt64 ≤ 5) = true from by decide)) ?_
  refine am_g 3 17 [some (.ref 47), some (.int (nI q)), some (.int 4), none] [.int (nI q), .ref 47] (hG σ sr ln Lc μ) rfl ?_
  refine am_call (y := 152) (vs := [.ref 47, .int (nI q)]) (rest := []) (v := (some (.int 1))) (h1 := (hG σ sr ln Lc μ)) rfl rfl rfl (sp_X12_isLine (σ := σ) (μ := μ) d _ hN (by omega) (am_in_of_nI hq (by omega))) ?_
  refine am_g 4 31 [some (.ref 47), some (.int (nI q)), some (.int 4), none] [.int (nI q), .ref 53] (hG σ sr ln Lc μ) rfl ?_
  refine am_ialdV (n := 40) (f := (μ 7)) (k := q) (w := 3) rfl rfl (rfl) (by omega) (by decide) (hs) ?_
  refine am_g 8 44 [some (.ref 47), some (.int (nI q)), some (.int 4), some (.int 3)] [.int 3] (hG σ sr ln Lc μ) rfl ?_
  refine am_call (y := 207) (vs := [.int 3]) (rest := []) (v := (some (.int 2))) (h1 := (hG σ sr ln Lc μ)) rfl rfl rfl (sp_X12_over_3 (d + 1) _) ?_
  refine am_g 8 43 [some (.ref 47), some (.int (nI q)), some (.int 4), some (.int 2)] [] (hG σ sr ln Lc μ) rfl ?_
  refine am_g 1 44 [some (.ref 47), some (.int (nI q)), some (.int 4), some (.int 2)] [.int 2] (hG σ sr ln Lc μ) rfl ?_
  refine am_call (y := 207) (vs := [.int 2]) (rest := []) (v := (some (.int 0))) (h1 := (hG σ sr ln Lc μ)) rfl rfl rfl (sp_X12_over_2 (d + 1) _) ?_
  refine am_g 8 43 [some (.ref 47), some (.int (nI q)), some (.int 4), some (.int 0)] [] (hG σ sr ln Lc μ) rfl ?_
  refine am_g 1 44 [some (.ref 47), some (.int (nI q)), some (.int 4), some (.int 0)] [.int 0] (hG σ sr ln Lc μ) rfl ?_
  refine am_call (y := 207) (vs := [.int 0]) (rest := []) (v := (some (.int (-1)))) (h1 := (hG σ sr ln Lc μ)) rfl rfl rfl (sp_X12_over_0 (d + 1) _) ?_
  refine am_g 8 65 [some (.ref 47), some (.int (nI q)), some (.int 4), some (.int (-1))] [] (hG σ sr ln Lc μ) rfl ?_
  refine am_g 1 67 [some (.ref 47), some (.int (nI q)), some (.int 4), some (.int (-1))] [.int (-13)] (hG σ sr ln Lc μ) rfl ?_
  exact am_ret2 rfl rfl rfl rfl rfl
theorem sp_X12_taken_35 (d : Nat) {N : Nat} (hN : μ 17 0 = nI N) (hN40 : N ≤ 40) (q : Nat) (hq : q < N) (hs : μ 7 q = 3) : am_X xs LL (d + 3) 208 [.ref 47, .int (nI q), .int 5] (hG σ sr ln Lc μ) (some (.int (-13))) (hG σ sr ln Lc μ) := by
  refine am_XR (d := d + 2) (C := cd_X12_taken) (L := [some (.ref 47), some (.int (nI q)), some (.int 5), none]) rfl rfl rfl rfl ?_
  refine am_g 4 6 [some (.ref 47), some (.int (nI q)), some (.int 5), none] [.long 5, .long 0, .long ((5 : Int32).toInt64)] (hG σ sr ln Lc μ) rfl ?_
  refine am_call (y := 140) (vs := [.long ((5 : Int32).toInt64), .long 0, .long 5]) (rest := []) (v := (some (.int 1))) (h1 := (hG σ sr ln Lc μ)) rfl rfl rfl (sp_X12_in_b (d + 1) _ _ _ _ (show decide ((0 : Int64) ≤ (5 : Int32).toInt64 ∧ (5 : Int32).toInt64 ≤ 5) = true from by decide)) ?_
  refine am_g 3 17 [some (.ref 47), some (.int (nI q)), some (.int 5), none] [.int (nI q), .ref 47] (hG σ sr ln Lc μ) rfl ?_
  refine am_call (y := 152) (vs := [.ref 47, .int (nI q)]) (rest := []) (v := (some (.int 1))) (h1 := (hG σ sr ln Lc μ)) rfl rfl rfl (sp_X12_isLine (σ := σ) (μ := μ) d _ hN (by omega) (am_in_of_nI hq (by omega))) ?_
  refine am_g 4 31 [some (.ref 47), some (.int (nI q)), some (.int 5), none] [.int (nI q), .ref 53] (hG σ sr ln Lc μ) rfl ?_
  refine am_ialdV (n := 40) (f := (μ 7)) (k := q) (w := 3) rfl rfl (rfl) (by omega) (by decide) (hs) ?_
  refine am_g 8 44 [some (.ref 47), some (.int (nI q)), some (.int 5), some (.int 3)] [.int 3] (hG σ sr ln Lc μ) rfl ?_
  refine am_call (y := 207) (vs := [.int 3]) (rest := []) (v := (some (.int 2))) (h1 := (hG σ sr ln Lc μ)) rfl rfl rfl (sp_X12_over_3 (d + 1) _) ?_
  refine am_g 8 43 [some (.ref 47), some (.int (nI q)), some (.int 5), some (.int 2)] [] (hG σ sr ln Lc μ) rfl ?_
  refine am_g 1 44 [some (.ref 47), some (.int (nI q)), some (.int 5), some (.int 2)] [.int 2] (hG σ sr ln Lc μ) rfl ?_
  refine am_call (y := 207) (vs := [.int 2]) (rest := []) (v := (some (.int 0))) (h1 := (hG σ sr ln Lc μ)) rfl rfl rfl (sp_X12_over_2 (d + 1) _) ?_
  refine am_g 8 43 [some (.ref 47), some (.int (nI q)), some (.int 5), some (.int 0)] [] (hG σ sr ln Lc μ) rfl ?_
  refine am_g 1 44 [some (.ref 47), some (.int (nI q)), some (.int 5), some (.int 0)] [.int 0] (hG σ sr ln Lc μ) rfl ?_
  refine am_call (y := 207) (vs := [.int 0]) (rest := []) (v := (some (.int (-1)))) (h1 := (hG σ sr ln Lc μ)) rfl rfl rfl (sp_X12_over_0 (d + 1) _) ?_
  refine am_g 8 65 [some (.ref 47), some (.int (nI q)), some (.int 5), some (.int (-1))] [] (hG σ sr ln Lc μ) rfl ?_
  refine am_g 1 67 [some (.ref 47), some (.int (nI q)), some (.int 5), some (.int (-1))] [.int (-13)] (hG σ sr ln Lc μ) rfl ?_
  exact am_ret2 rfl rfl rfl rfl rfl
theorem sp_X12_taken_40 (d : Nat) {N : Nat} (hN : μ 17 0 = nI N) (hN40 : N ≤ 40) (q : Nat) (hq : q < N) (hs : μ 7 q = 4) : am_X xs LL (d + 3) 208 [.ref 47, .int (nI q), .int 0] (hG σ sr ln Lc μ) (some (.int (μ 8 q))) (hG σ sr ln Lc μ) := by
  refine am_XR (d := d + 2) (C := cd_X12_taken) (L := [some (.ref 47), some (.int (nI q)), some (.int 0), none]) rfl rfl rfl rfl ?_
  refine am_g 4 6 [some (.ref 47), some (.int (nI q)), some (.int 0), none] [.long 5, .long 0, .long ((0 : Int32).toInt64)] (hG σ sr ln Lc μ) rfl ?_
  refine am_call (y := 140) (vs := [.long ((0 : Int32).toInt64), .long 0, .long 5]) (rest := []) (v := (some (.int 1))) (h1 := (hG σ sr ln Lc μ)) rfl rfl rfl (sp_X12_in_b (d + 1) _ _ _ _ (show decide ((0 : Int64) ≤ (0 : Int32).toInt64 ∧ (0 : Int32).toInt64 ≤ 5) = true from by decide)) ?_
  refine am_g 3 17 [some (.ref 47), some (.int (nI q)), some (.int 0), none] [.int (nI q), .ref 47] (hG σ sr ln Lc μ) rfl ?_
  refine am_call (y := 152) (vs := [.ref 47, .int (nI q)]) (rest := []) (v := (some (.int 1))) (h1 := (hG σ sr ln Lc μ)) rfl rfl rfl (sp_X12_isLine (σ := σ) (μ := μ) d _ hN (by omega) (am_in_of_nI hq (by omega))) ?_
  refine am_g 4 31 [some (.ref 47), some (.int (nI q)), some (.int 0), none] [.int (nI q), .ref 53] (hG σ sr ln Lc μ) rfl ?_
  refine am_ialdV (n := 40) (f := (μ 7)) (k := q) (w := 4) rfl rfl (rfl) (by omega) (by decide) (hs) ?_
  refine am_g 8 44 [some (.ref 47), some (.int (nI q)), some (.int 0), some (.int 4)] [.int 4] (hG σ sr ln Lc μ) rfl ?_
  refine am_call (y := 207) (vs := [.int 4]) (rest := []) (v := (some (.int 2))) (h1 := (hG σ sr ln Lc μ)) rfl rfl rfl (sp_X12_over_4 (d + 1) _) ?_
  refine am_g 8 43 [some (.ref 47), some (.int (nI q)), some (.int 0), some (.int 2)] [] (hG σ sr ln Lc μ) rfl ?_
  refine am_g 1 44 [some (.ref 47), some (.int (nI q)), some (.int 0), some (.int 2)] [.int 2] (hG σ sr ln Lc μ) rfl ?_
  refine am_call (y := 207) (vs := [.int 2]) (rest := []) (v := (some (.int 0))) (h1 := (hG σ sr ln Lc μ)) rfl rfl rfl (sp_X12_over_2 (d + 1) _) ?_
  refine am_g 8 51 [some (.ref 47), some (.int (nI q)), some (.int 0), some (.int 0)] [] (hG σ sr ln Lc μ) rfl ?_
  refine am_g 6 61 [some (.ref 47), some (.int (nI q)), some (.int 0), some (.int 0)] [.int (nI q), .ref 54] (hG σ sr ln Lc μ) rfl ?_
  refine am_ialdR (n := 40) (f := (μ 8)) (k := q) rfl rfl (rfl) (by omega) (by decide) ?_
  refine am_g 1 67 [some (.ref 47), some (.int (nI q)), some (.int 0), some (.int 0)] [.int (μ 8 q)] (hG σ sr ln Lc μ) rfl ?_
  exact am_ret2 rfl rfl rfl rfl rfl
theorem sp_X12_taken_41 (d : Nat) {N : Nat} (hN : μ 17 0 = nI N) (hN40 : N ≤ 40) (q : Nat) (hq : q < N) (hs : μ 7 q = 4) : am_X xs LL (d + 3) 208 [.ref 47, .int (nI q), .int 1] (hG σ sr ln Lc μ) (some (.int (-13))) (hG σ sr ln Lc μ) := by
  refine am_XR (d := d + 2) (C := cd_X12_taken) (L := [some (.ref 47), some (.int (nI q)), some (.int 1), none]) rfl rfl rfl rfl ?_
  refine am_g 4 6 [some (.ref 47), some (.int (nI q)), some (.int 1), none] [.long 5, .long 0, .long ((1 : Int32).toInt64)] (hG σ sr ln Lc μ) rfl ?_
  refine am_call (y := 140) (vs := [.long ((1 : Int32).toInt64), .long 0, .long 5]) (rest := []) (v := (some (.int 1))) (h1 := (hG σ sr ln Lc μ)) rfl rfl rfl (sp_X12_in_b (d + 1) _ _ _ _ (show decide ((0 : Int64) ≤ (1 : Int32).toInt64 ∧ (1 : Int32).toInt64 ≤ 5) = true from by decide)) ?_
  refine am_g 3 17 [some (.ref 47), some (.int (nI q)), some (.int 1), none] [.int (nI q), .ref 47] (hG σ sr ln Lc μ) rfl ?_
  refine am_call (y := 152) (vs := [.ref 47, .int (nI q)]) (rest := []) (v := (some (.int 1))) (h1 := (hG σ sr ln Lc μ)) rfl rfl rfl (sp_X12_isLine (σ := σ) (μ := μ) d _ hN (by omega) (am_in_of_nI hq (by omega))) ?_
  refine am_g 4 31 [some (.ref 47), some (.int (nI q)), some (.int 1), none] [.int (nI q), .ref 53] (hG σ sr ln Lc μ) rfl ?_
  refine am_ialdV (n := 40) (f := (μ 7)) (k := q) (w := 4) rfl rfl (rfl) (by omega) (by decide) (hs) ?_
  refine am_g 8 44 [some (.ref 47), some (.int (nI q)), some (.int 1), some (.int 4)] [.int 4] (hG σ sr ln Lc μ) rfl ?_
  refine am_call (y := 207) (vs := [.int 4]) (rest := []) (v := (some (.int 2))) (h1 := (hG σ sr ln Lc μ)) rfl rfl rfl (sp_X12_over_4 (d + 1) _) ?_
  refine am_g 8 43 [some (.ref 47), some (.int (nI q)), some (.int 1), some (.int 2)] [] (hG σ sr ln Lc μ) rfl ?_
  refine am_g 1 44 [some (.ref 47), some (.int (nI q)), some (.int 1), some (.int 2)] [.int 2] (hG σ sr ln Lc μ) rfl ?_
  refine am_call (y := 207) (vs := [.int 2]) (rest := []) (v := (some (.int 0))) (h1 := (hG σ sr ln Lc μ)) rfl rfl rfl (sp_X12_over_2 (d + 1) _) ?_
  refine am_g 8 43 [some (.ref 47), some (.int (nI q)), some (.int 1), some (.int 0)] [] (hG σ sr ln Lc μ) rfl ?_
  refine am_g 1 44 [some (.ref 47), some (.int (nI q)), some (.int 1), some (.int 0)] [.int 0] (hG σ sr ln Lc μ) rfl ?_
  refine am_call (y := 207) (vs := [.int 0]) (rest := []) (v := (some (.int (-1)))) (h1 := (hG σ sr ln Lc μ)) rfl rfl rfl (sp_X12_over_0 (d + 1) _) ?_
  refine am_g 8 65 [some (.ref 47), some (.int (nI q)), some (.int 1), some (.int (-1))] [] (hG σ sr ln Lc μ) rfl ?_
  refine am_g 1 67 [some (.ref 47), some (.int (nI q)), some (.int 1), some (.int (-1))] [.int (-13)] (hG σ sr ln Lc μ) rfl ?_
  exact am_ret2 rfl rfl rfl rfl rfl
theorem sp_X12_taken_42 (d : Nat) {N : Nat} (hN : μ 17 0 = nI N) (hN40 : N ≤ 40) (q : Nat) (hq : q < N) (hs : μ 7 q = 4) : am_X xs LL (d + 3) 208 [.ref 47, .int (nI q), .int 2] (hG σ sr ln Lc μ) (some (.int (μ 8 q))) (hG σ sr ln Lc μ) := by
  refine am_XR (d := d + 2) (C := cd_X12_taken) (L := [some (.ref 47), some (.int (nI q)), some (.int 2), none]) rfl rfl rfl rfl ?_
  refine am_g 4 6 [some (.ref 47), some (.int (nI q)), some (.int 2), none] [.long 5, .long 0, .long ((2 : Int32).toInt64)] (hG σ sr ln Lc μ) rfl ?_
  refine am_call (y := 140) (vs := [.long ((2 : Int32).toInt64), .long 0, .long 5]) (rest := []) (v := (some (.int 1))) (h1 := (hG σ sr ln Lc μ)) rfl rfl rfl (sp_X12_in_b (d + 1) _ _ _ _ (show decide ((0 : Int64) ≤ (2 : Int32).toInt64 ∧ (2 : Int32).toInt64 ≤ 5) = true from by decide)) ?_
  refine am_g 3 17 [some (.ref 47), some (.int (nI q)), some (.int 2), none] [.int (nI q), .ref 47] (hG σ sr ln Lc μ) rfl ?_
  refine am_call (y := 152) (vs := [.ref 47, .int (nI q)]) (rest := []) (v := (some (.int 1))) (h1 := (hG σ sr ln Lc μ)) rfl rfl rfl (sp_X12_isLine (σ := σ) (μ := μ) d _ hN (by omega) (am_in_of_nI hq (by omega))) ?_
  refine am_g 4 31 [some (.ref 47), some (.int (nI q)), some (.int 2), none] [.int (nI q), .ref 53] (hG σ sr ln Lc μ) rfl ?_
  refine am_ialdV (n := 40) (f := (μ 7)) (k := q) (w := 4) rfl rfl (rfl) (by omega) (by decide) (hs) ?_
  refine am_g 8 44 [some (.ref 47), some (.int (nI q)), some (.int 2), some (.int 4)] [.int 4] (hG σ sr ln Lc μ) rfl ?_
  refine am_call (y := 207) (vs := [.int 4]) (rest := []) (v := (some (.int 2))) (h1 := (hG σ sr ln Lc μ)) rfl rfl rfl (sp_X12_over_4 (d + 1) _) ?_
  refine am_g 8 51 [some (.ref 47), some (.int (nI q)), some (.int 2), some (.int 2)] [] (hG σ sr ln Lc μ) rfl ?_
  refine am_g 6 61 [some (.ref 47), some (.int (nI q)), some (.int 2), some (.int 2)] [.int (nI q), .ref 54] (hG σ sr ln Lc μ) rfl ?_
  refine am_ialdR (n := 40) (f := (μ 8)) (k := q) rfl rfl (rfl) (by omega) (by decide) ?_
  refine am_g 1 67 [some (.ref 47), some (.int (nI q)), some (.int 2), some (.int 2)] [.int (μ 8 q)] (hG σ sr ln Lc μ) rfl ?_
  exact am_ret2 rfl rfl rfl rfl rfl
theorem sp_X12_taken_43 (d : Nat) {N : Nat} (hN : μ 17 0 = nI N) (hN40 : N ≤ 40) (q : Nat) (hq : q < N) (hs : μ 7 q = 4) : am_X xs LL (d + 3) 208 [.ref 47, .int (nI q), .int 3] (hG σ sr ln Lc μ) (some (.int (-13))) (hG σ sr ln Lc μ) := by
  refine am_XR (d := d + 2) (C := cd_X12_taken) (L := [some (.ref 47), some (.int (nI q)), some (.int 3), none]) rfl rfl rfl rfl ?_
  refine am_g 4 6 [some (.ref 47), some (.int (nI q)), some (.int 3), none] [.long 5, .long 0, .long ((3 : Int32).toInt64)] (hG σ sr ln Lc μ) rfl ?_
  refine am_call (y := 140) (vs := [.long ((3 : Int32).toInt64), .long 0, .long 5]) (rest := []) (v := (some (.int 1))) (h1 := (hG σ sr ln Lc μ)) rfl rfl rfl (sp_X12_in_b (d + 1) _ _ _ _ (show decide ((0 : Int64) ≤ (3 : Int32).toInt64 ∧ (3 : Int32).toInt64 ≤ 5) = true from by decide)) ?_
  refine am_g 3 17 [some (.ref 47), some (.int (nI q)), some (.int 3), none] [.int (nI q), .ref 47] (hG σ sr ln Lc μ) rfl ?_
  refine am_call (y := 152) (vs := [.ref 47, .int (nI q)]) (rest := []) (v := (some (.int 1))) (h1 := (hG σ sr ln Lc μ)) rfl rfl rfl (sp_X12_isLine (σ := σ) (μ := μ) d _ hN (by omega) (am_in_of_nI hq (by omega))) ?_
  refine am_g 4 31 [some (.ref 47), some (.int (nI q)), some (.int 3), none] [.int (nI q), .ref 53] (hG σ sr ln Lc μ) rfl ?_
  refine am_ialdV (n := 40) (f := (μ 7)) (k := q) (w := 4) rfl rfl (rfl) (by omega) (by decide) (hs) ?_
  refine am_g 8 44 [some (.ref 47), some (.int (nI q)), some (.int 3), some (.int 4)] [.int 4] (hG σ sr ln Lc μ) rfl ?_
  refine am_call (y := 207) (vs := [.int 4]) (rest := []) (v := (some (.int 2))) (h1 := (hG σ sr ln Lc μ)) rfl rfl rfl (sp_X12_over_4 (d + 1) _) ?_
  refine am_g 8 43 [some (.ref 47), some (.int (nI q)), some (.int 3), some (.int 2)] [] (hG σ sr ln Lc μ) rfl ?_
  refine am_g 1 44 [some (.ref 47), some (.int (nI q)), some (.int 3), some (.int 2)] [.int 2] (hG σ sr ln Lc μ) rfl ?_
  refine am_call (y := 207) (vs := [.int 2]) (rest := []) (v := (some (.int 0))) (h1 := (hG σ sr ln Lc μ)) rfl rfl rfl (sp_X12_over_2 (d + 1) _) ?_
  refine am_g 8 43 [some (.ref 47), some (.int (nI q)), some (.int 3), some (.int 0)] [] (hG σ sr ln Lc μ) rfl ?_
  refine am_g 1 44 [some (.ref 47), some (.int (nI q)), some (.int 3), some (.int 0)] [.int 0] (hG σ sr ln Lc μ) rfl ?_
  refine am_call (y := 207) (vs := [.int 0]) (rest := []) (v := (some (.int (-1)))) (h1 := (hG σ sr ln Lc μ)) rfl rfl rfl (sp_X12_over_0 (d + 1) _) ?_
  refine am_g 8 65 [some (.ref 47), some (.int (nI q)), some (.int 3), some (.int (-1))] [] (hG σ sr ln Lc μ) rfl ?_
  refine am_g 1 67 [some (.ref 47), some (.int (nI q)), some (.int 3), some (.int (-1))] [.int (-13)] (hG σ sr ln Lc μ) rfl ?_
  exact am_ret2 rfl rfl rfl rfl rfl
theorem sp_X12_taken_44 (d : Nat) {N : Nat} (hN : μ 17 0 = nI N) (hN40 : N ≤ 40) (q : Nat) (hq : q < N) (hs : μ 7 q = 4) : am_X xs LL (d + 3) 208 [.ref 47, .int (nI q), .int 4] (hG σ sr ln Lc μ) (some (.int (μ 8 q))) (hG σ sr ln Lc μ) := by
  refine am_XR (d := d + 2) (C := cd_X12_taken) (L := [some (.ref 47), some (.int (nI q)), some (.int 4), none]) rfl rfl rfl rfl ?_
  refine am_g 4 6 [some (.ref 47), some (.int (nI q)), some (.int 4), none] [.long 5, .long 0, .long ((4 : Int32).toInt64)] (hG σ sr ln Lc μ) rfl ?_
  refine am_call (y := 140) (vs := [.long ((4 : Int32).toInt64), .long 0, .long 5]) (rest := []) (v := (some (.int 1))) (h1 := (hG σ sr ln Lc μ)) rfl rfl rfl (sp_X12_in_b (d + 1) _ _ _ _ (show decide ((0 : Int64) ≤ (4 : Int32).toInt64 ∧ (4 : Int32).toInt64 ≤ 5) = true from by decide)) ?_
  refine am_g 3 17 [some (.ref 47), some (.int (nI q)), some (.int 4), none] [.int (nI q), .ref 47] (hG σ sr ln Lc μ) rfl ?_
  refine am_call (y := 152) (vs := [.ref 47, .int (nI q)]) (rest := []) (v := (some (.int 1))) (h1 := (hG σ sr ln Lc μ)) rfl rfl rfl (sp_X12_isLine (σ := σ) (μ := μ) d _ hN (by omega) (am_in_of_nI hq (by omega))) ?_
  refine am_g 4 31 [some (.ref 47), some (.int (nI q)), some (.int 4), none] [.int (nI q), .ref 53] (hG σ sr ln Lc μ) rfl ?_
  refine am_ialdV (n := 40) (f := (μ 7)) (k := q) (w := 4) rfl rfl (rfl) (by omega) (by decide) (hs) ?_
  refine am_g 8 52 [some (.ref 47), some (.int (nI q)), some (.int 4), some (.int 4)] [.int 4] (hG σ sr ln Lc μ) rfl ?_
  refine am_g 5 61 [some (.ref 47), some (.int (nI q)), some (.int 4), some (.int 4)] [.int (nI q), .ref 54] (hG σ sr ln Lc μ) rfl ?_
  refine am_ialdR (n := 40) (f := (μ 8)) (k := q) rfl rfl (rfl) (by omega) (by decide) ?_
  refine am_g 1 67 [some (.ref 47), some (.int (nI q)), some (.int 4), some (.int 4)] [.int (μ 8 q)] (hG σ sr ln Lc μ) rfl ?_
  exact am_ret2 rfl rfl rfl rfl rfl
theorem sp_X12_taken_45 (d : Nat) {N : Nat} (hN : μ 17 0 = nI N) (hN40 : N ≤ 40) (q : Nat) (hq : q < N) (hs : μ 7 q = 4) : am_X xs LL (d + 3) 208 [.ref 47, .int (nI q), .int 5] (hG σ sr ln Lc μ) (some (.int (-13))) (hG σ sr ln Lc μ) := by
  refine am_XR (d := d + 2) (C := cd_X12_taken) (L := [some (.ref 47), some (.int (nI q)), some (.int 5), none]) rfl rfl rfl rfl ?_
  refine am_g 4 6 [some (.ref 47), some (.int (nI q)), some (.int 5), none] [.long 5, .long 0, .long ((5 : Int32).toInt64)] (hG σ sr ln Lc μ) rfl ?_
  refine am_call (y := 140) (vs := [.long ((5 : Int32).toInt64), .long 0, .long 5]) (rest := []) (v := (some (.int 1))) (h1 := (hG σ sr ln Lc μ)) rfl rfl rfl (sp_X12_in_b (d + 1) _ _ _ _ (show decide ((0 : Int64) ≤ (5 : Int32).toInt64 ∧ (5 : Int32).toInt64 ≤ 5) = true from by decide)) ?_
  refine am_g 3 17 [some (.ref 47), some (.int (nI q)), some (.int 5), none] [.int (nI q), .ref 47] (hG σ sr ln Lc μ) rfl ?_
  refine am_call (y := 152) (vs := [.ref 47, .int (nI q)]) (rest := []) (v := (some (.int 1))) (h1 := (hG σ sr ln Lc μ)) rfl rfl rfl (sp_X12_isLine (σ := σ) (μ := μ) d _ hN (by omega) (am_in_of_nI hq (by omega))) ?_
  refine am_g 4 31 [some (.ref 47), some (.int (nI q)), some (.int 5), none] [.int (nI q), .ref 53] (hG σ sr ln Lc μ) rfl ?_
  refine am_ialdV (n := 40) (f := (μ 7)) (k := q) (w := 4) rfl rfl (rfl) (by omega) (by decide) (hs) ?_
  refine am_g 8 44 [some (.ref 47), some (.int (nI q)), some (.int 5), some (.int 4)] [.int 4] (hG σ sr ln Lc μ) rfl ?_
  refine am_call (y := 207) (vs := [.int 4]) (rest := []) (v := (some (.int 2))) (h1 := (hG σ sr ln Lc μ)) rfl rfl rfl (sp_X12_over_4 (d + 1) _) ?_
  refine am_g 8 43 [some (.ref 47), some (.int (nI q)), some (.int 5), some (.int 2)] [] (hG σ sr ln Lc μ) rfl ?_
  refine am_g 1 44 [some (.ref 47), some (.int (nI q)), some (.int 5), some (.int 2)] [.int 2] (hG σ sr ln Lc μ) rfl ?_
  refine am_call (y := 207) (vs := [.int 2]) (rest := []) (v := (some (.int 0))) (h1 := (hG σ sr ln Lc μ)) rfl rfl rfl (sp_X12_over_2 (d + 1) _) ?_
  refine am_g 8 43 [some (.ref 47), some (.int (nI q)), some (.int 5), some (.int 0)] [] (hG σ sr ln Lc μ) rfl ?_
  refine am_g 1 44 [some (.ref 47), some (.int (nI q)), some (.int 5), some (.int 0)] [.int 0] (hG σ sr ln Lc μ) rfl ?_
  refine am_call (y := 207) (vs := [.int 0]) (rest := []) (v := (some (.int (-1)))) (h1 := (hG σ sr ln Lc μ)) rfl rfl rfl (sp_X12_over_0 (d + 1) _) ?_
  refine am_g 8 65 [some (.ref 47), some (.int (nI q)), some (.int 5), some (.int (-1))] [] (hG σ sr ln Lc μ) rfl ?_
  refine am_g 1 67 [some (.ref 47), some (.int (nI q)), some (.int 5), some (.int (-1))] [.int (-13)] (hG σ sr ln Lc μ) rfl ?_
  exact am_ret2 rfl rfl rfl rfl rfl
theorem sp_X12_taken_50 (d : Nat) {N : Nat} (hN : μ 17 0 = nI N) (hN40 : N ≤ 40) (q : Nat) (hq : q < N) (hs : μ 7 q = 5) : am_X xs LL (d + 3) 208 [.ref 47, .int (nI q), .int 0] (hG σ sr ln Lc μ) (some (.int (μ 8 q))) (hG σ sr ln Lc μ) := by
  refine am_XR (d := d + 2) (C := cd_X12_taken) (L := [some (.ref 47), some (.int (nI q)), some (.int 0), none]) rfl rfl rfl rfl ?_
  refine am_g 4 6 [some (.ref 47), some (.int (nI q)), some (.int 0), none] [.long 5, .long 0, .long ((0 : Int32).toInt64)] (hG σ sr ln Lc μ) rfl ?_
  refine am_call (y := 140) (vs := [.long ((0 : Int32).toInt64), .long 0, .long 5]) (rest := []) (v := (some (.int 1))) (h1 := (hG σ sr ln Lc μ)) rfl rfl rfl (sp_X12_in_b (d + 1) _ _ _ _ (show decide ((0 : Int64) ≤ (0 : Int32).toInt64 ∧ (0 : Int32).toInt64 ≤ 5) = true from by decide)) ?_
  refine am_g 3 17 [some (.ref 47), some (.int (nI q)), some (.int 0), none] [.int (nI q), .ref 47] (hG σ sr ln Lc μ) rfl ?_
  refine am_call (y := 152) (vs := [.ref 47, .int (nI q)]) (rest := []) (v := (some (.int 1))) (h1 := (hG σ sr ln Lc μ)) rfl rfl rfl (sp_X12_isLine (σ := σ) (μ := μ) d _ hN (by omega) (am_in_of_nI hq (by omega))) ?_
  refine am_g 4 31 [some (.ref 47), some (.int (nI q)), some (.int 0), none] [.int (nI q), .ref 53] (hG σ sr ln Lc μ) rfl ?_
  refine am_ialdV (n := 40) (f := (μ 7)) (k := q) (w := 5) rfl rfl (rfl) (by omega) (by decide) (hs) ?_
  refine am_g 8 44 [some (.ref 47), some (.int (nI q)), some (.int 0), some (.int 5)] [.int 5] (hG σ sr ln Lc μ) rfl ?_
  refine am_call (y := 207) (vs := [.int 5]) (rest := []) (v := (some (.int 0))) (h1 := (hG σ sr ln Lc μ)) rfl rfl rfl (sp_X12_over_5 (d + 1) _) ?_
  refine am_g 8 51 [some (.ref 47), some (.int (nI q)), some (.int 0), some (.int 0)] [] (hG σ sr ln Lc μ) rfl ?_
  refine am_g 6 61 [some (.ref 47), some (.int (nI q)), some (.int 0), some (.int 0)] [.int (nI q), .ref 54] (hG σ sr ln Lc μ) rfl ?_
  refine am_ialdR (n := 40) (f := (μ 8)) (k := q) rfl rfl (rfl) (by omega) (by decide) ?_
  refine am_g 1 67 [some (.ref 47), some (.int (nI q)), some (.int 0), some (.int 0)] [.int (μ 8 q)] (hG σ sr ln Lc μ) rfl ?_
  exact am_ret2 rfl rfl rfl rfl rfl
theorem sp_X12_taken_51 (d : Nat) {N : Nat} (hN : μ 17 0 = nI N) (hN40 : N ≤ 40) (q : Nat) (hq : q < N) (hs : μ 7 q = 5) : am_X xs LL (d + 3) 208 [.ref 47, .int (nI q), .int 1] (hG σ sr ln Lc μ) (some (.int (-13))) (hG σ sr ln Lc μ) := by
  refine am_XR (d := d + 2) (C := cd_X12_taken) (L := [some (.ref 47), some (.int (nI q)), some (.int 1), none]) rfl rfl rfl rfl ?_
  refine am_g 4 6 [some (.ref 47), some (.int (nI q)), some (.int 1), none] [.long 5, .long 0, .long ((1 : Int32).toInt64)] (hG σ sr ln Lc μ) rfl ?_
  refine am_call (y := 140) (vs := [.long ((1 : Int32).toInt64), .long 0, .long 5]) (rest := []) (v := (some (.int 1))) (h1 := (hG σ sr ln Lc μ)) rfl rfl rfl (sp_X12_in_b (d + 1) _ _ _ _ (show decide ((0 : Int64) ≤ (1 : Int32).toInt64 ∧ (1 : Int32).toInt64 ≤ 5) = true from by decide)) ?_
  refine am_g 3 17 [some (.ref 47), some (.int (nI q)), some (.int 1), none] [.int (nI q), .ref 47] (hG σ sr ln Lc μ) rfl ?_
  refine am_call (y := 152) (vs := [.ref 47, .int (nI q)]) (rest := []) (v := (some (.int 1))) (h1 := (hG σ sr ln Lc μ)) rfl rfl rfl (sp_X12_isLine (σ := σ) (μ := μ) d _ hN (by omega) (am_in_of_nI hq (by omega))) ?_
  refine am_g 4 31 [some (.ref 47), some (.int (nI q)), some (.int 1), none] [.int (nI q), .ref 53] (hG σ sr ln Lc μ) rfl ?_
  refine am_ialdV (n := 40) (f := (μ 7)) (k := q) (w := 5) rfl rfl (rfl) (by omega) (by decide) (hs) ?_
  refine am_g 8 44 [some (.ref 47), some (.int (nI q)), some (.int 1), some (.int 5)] [.int 5] (hG σ sr ln Lc μ) rfl ?_
  refine am_call (y := 207) (vs := [.int 5]) (rest := []) (v := (some (.int 0))) (h1 := (hG σ sr ln Lc μ)) rfl rfl rfl (sp_X12_over_5 (d + 1) _) ?_
  refine am_g 8 43 [some (.ref 47), some (.int (nI q)), some (.int 1), some (.int 0)] [] (hG σ sr ln Lc μ) rfl ?_
  refine am_g 1 44 [some (.ref 47), some (.int (nI q)), some (.int 1), some (.int 0)] [.int 0] (hG σ sr ln Lc μ) rfl ?_
  refine am_call (y := 207) (vs := [.int 0]) (rest := []) (v := (some (.int (-1)))) (h1 := (hG σ sr ln Lc μ)) rfl rfl rfl (sp_X12_over_0 (d + 1) _) ?_
  refine am_g 8 65 [some (.ref 47), some (.int (nI q)), some (.int 1), some (.int (-1))] [] (hG σ sr ln Lc μ) rfl ?_
  refine am_g 1 67 [some (.ref 47), some (.int (nI q)), some (.int 1), some (.int (-1))] [.int (-13)] (hG σ sr ln Lc μ) rfl ?_
  exact am_ret2 rfl rfl rfl rfl rfl
theorem sp_X12_taken_52 (d : Nat) {N : Nat} (hN : μ 17 0 = nI N) (hN40 : N ≤ 40) (q : Nat) (hq : q < N) (hs : μ 7 q = 5) : am_X xs LL (d + 3) 208 [.ref 47, .int (nI q), .int 2] (hG σ sr ln Lc μ) (some (.int (-13))) (hG σ sr ln Lc μ) := by
  refine am_XR (d := d + 2) (C := cd_X12_taken) (L := [some (.ref 47), some (.int (nI q)), some (.int 2), none]) rfl rfl rfl rfl ?_
  refine am_g 4 6 [some (.ref 47), some (.int (nI q)), some (.int 2), none] [.long 5, .long 0, .long ((2 : Int32).toInt64)] (hG σ sr ln Lc μ) rfl ?_
  refine am_call (y := 140) (vs := [.long ((2 : Int32).toInt64), .long 0, .long 5]) (rest := []) (v := (some (.int 1))) (h1 := (hG σ sr ln Lc μ)) rfl rfl rfl (sp_X12_in_b (d + 1) _ _ _ _ (show decide ((0 : Int64) ≤ (2 : Int32).toInt64 ∧ (2 : Int32).toInt64 ≤ 5) = true from by decide)) ?_
  refine am_g 3 17 [some (.ref 47), some (.int (nI q)), some (.int 2), none] [.int (nI q), .ref 47] (hG σ sr ln Lc μ) rfl ?_
  refine am_call (y := 152) (vs := [.ref 47, .int (nI q)]) (rest := []) (v := (some (.int 1))) (h1 := (hG σ sr ln Lc μ)) rfl rfl rfl (sp_X12_isLine (σ := σ) (μ := μ) d _ hN (by omega) (am_in_of_nI hq (by omega))) ?_
  refine am_g 4 31 [some (.ref 47), some (.int (nI q)), some (.int 2), none] [.int (nI q), .ref 53] (hG σ sr ln Lc μ) rfl ?_
  refine am_ialdV (n := 40) (f := (μ 7)) (k := q) (w := 5) rfl rfl (rfl) (by omega) (by decide) (hs) ?_
  refine am_g 8 44 [some (.ref 47), some (.int (nI q)), some (.int 2), some (.int 5)] [.int 5] (hG σ sr ln Lc μ) rfl ?_
  refine am_call (y := 207) (vs := [.int 5]) (rest := []) (v := (some (.int 0))) (h1 := (hG σ sr ln Lc μ)) rfl rfl rfl (sp_X12_over_5 (d + 1) _) ?_
  refine am_g 8 43 [some (.ref 47), some (.int (nI q)), some (.int 2), some (.int 0)] [] (hG σ sr ln Lc μ) rfl ?_
  refine am_g 1 44 [some (.ref 47), some (.int (nI q)), some (.int 2), some (.int 0)] [.int 0] (hG σ sr ln Lc μ) rfl ?_
  refine am_call (y := 207) (vs := [.int 0]) (rest := []) (v := (some (.int (-1)))) (h1 := (hG σ sr ln Lc μ)) rfl rfl rfl (sp_X12_over_0 (d + 1) _) ?_
  refine am_g 8 65 [some (.ref 47), some (.int (nI q)), some (.int 2), some (.int (-1))] [] (hG σ sr ln Lc μ) rfl ?_
  refine am_g 1 67 [some (.ref 47), some (.int (nI q)), some (.int 2), some (.int (-1))] [.int (-13)] (hG σ sr ln Lc μ) rfl ?_
  exact am_ret2 rfl rfl rfl rfl rfl
theorem sp_X12_taken_53 (d : Nat) {N : Nat} (hN : μ 17 0 = nI N) (hN40 : N ≤ 40) (q : Nat) (hq : q < N) (hs : μ 7 q = 5) : am_X xs LL (d + 3) 208 [.ref 47, .int (nI q), .int 3] (hG σ sr ln Lc μ) (some (.int (-13))) (hG σ sr ln Lc μ) := by
  refine am_XR (d := d + 2) (C := cd_X12_taken) (L := [some (.ref 47), some (.int (nI q)), some (.int 3), none]) rfl rfl rfl rfl ?_
  refine am_g 4 6 [some (.ref 47), some (.int (nI q)), some (.int 3), none] [.long 5, .long 0, .long ((3 : Int32).toInt64)] (hG σ sr ln Lc μ) rfl ?_
  refine am_call (y := 140) (vs := [.long ((3 : Int32).toInt64), .long 0, .long 5]) (rest := []) (v := (some (.int 1))) (h1 := (hG σ sr ln Lc μ)) rfl rfl rfl (sp_X12_in_b (d + 1) _ _ _ _ (show decide ((0 : Int64) ≤ (3 : Int32).toInt64 ∧ (3 : Int32).toInt64 ≤ 5) = true from by decide)) ?_
  refine am_g 3 17 [some (.ref 47), some (.int (nI q)), some (.int 3), none] [.int (nI q), .ref 47] (hG σ sr ln Lc μ) rfl ?_
  refine am_call (y := 152) (vs := [.ref 47, .int (nI q)]) (rest := []) (v := (some (.int 1))) (h1 := (hG σ sr ln Lc μ)) rfl rfl rfl (sp_X12_isLine (σ := σ) (μ := μ) d _ hN (by omega) (am_in_of_nI hq (by omega))) ?_
  refine am_g 4 31 [some (.ref 47), some (.int (nI q)), some (.int 3), none] [.int (nI q), .ref 53] (hG σ sr ln Lc μ) rfl ?_
  refine am_ialdV (n := 40) (f := (μ 7)) (k := q) (w := 5) rfl rfl (rfl) (by omega) (by decide) (hs) ?_
  refine am_g 8 44 [some (.ref 47), some (.int (nI q)), some (.int 3), some (.int 5)] [.int 5] (hG σ sr ln Lc μ) rfl ?_
  refine am_call (y := 207) (vs := [.int 5]) (rest := []) (v := (some (.int 0))) (h1 := (hG σ sr ln Lc μ)) rfl rfl rfl (sp_X12_over_5 (d + 1) _) ?_
  refine am_g 8 43 [some (.ref 47), some (.int (nI q)), some (.int 3), some (.int 0)] [] (hG σ sr ln Lc μ) rfl ?_
  refine am_g 1 44 [some (.ref 47), some (.int (nI q)), some (.int 3), some (.int 0)] [.int 0] (hG σ sr ln Lc μ) rfl ?_
  refine am_call (y := 207) (vs := [.int 0]) (rest := []) (v := (some (.int (-1)))) (h1 := (hG σ sr ln Lc μ)) rfl rfl rfl (sp_X12_over_0 (d + 1) _) ?_
  refine am_g 8 65 [some (.ref 47), some (.int (nI q)), some (.int 3), some (.int (-1))] [] (hG σ sr ln Lc μ) rfl ?_
  refine am_g 1 67 [some (.ref 47), some (.int (nI q)), some (.int 3), some (.int (-1))] [.int (-13)] (hG σ sr ln Lc μ) rfl ?_
  exact am_ret2 rfl rfl rfl rfl rfl
theorem sp_X12_taken_54 (d : Nat) {N : Nat} (hN : μ 17 0 = nI N) (hN40 : N ≤ 40) (q : Nat) (hq : q < N) (hs : μ 7 q = 5) : am_X xs LL (d + 3) 208 [.ref 47, .int (nI q), .int 4] (hG σ sr ln Lc μ) (some (.int (-13))) (hG σ sr ln Lc μ) := by
  refine am_XR (d := d + 2) (C := cd_X12_taken) (L := [some (.ref 47), some (.int (nI q)), some (.int 4), none]) rfl rfl rfl rfl ?_
  refine am_g 4 6 [some (.ref 47), some (.int (nI q)), some (.int 4), none] [.long 5, .long 0, .long ((4 : Int32).toInt64)] (hG σ sr ln Lc μ) rfl ?_
  refine am_call (y := 140) (vs := [.long ((4 : Int32).toInt64), .long 0, .long 5]) (rest := []) (v := (some (.int 1))) (h1 := (hG σ sr ln Lc μ)) rfl rfl rfl (sp_X12_in_b (d + 1) _ _ _ _ (show decide ((0 : Int64) ≤ (4 : Int32).toInt64 ∧ (4 : Int32).toInt64 ≤ 5) = true from by decide)) ?_
  refine am_g 3 17 [some (.ref 47), some (.int (nI q)), some (.int 4), none] [.int (nI q), .ref 47] (hG σ sr ln Lc μ) rfl ?_
  refine am_call (y := 152) (vs := [.ref 47, .int (nI q)]) (rest := []) (v := (some (.int 1))) (h1 := (hG σ sr ln Lc μ)) rfl rfl rfl (sp_X12_isLine (σ := σ) (μ := μ) d _ hN (by omega) (am_in_of_nI hq (by omega))) ?_
  refine am_g 4 31 [some (.ref 47), some (.int (nI q)), some (.int 4), none] [.int (nI q), .ref 53] (hG σ sr ln Lc μ) rfl ?_
  refine am_ialdV (n := 40) (f := (μ 7)) (k := q) (w := 5) rfl rfl (rfl) (by omega) (by decide) (hs) ?_
  refine am_g 8 44 [some (.ref 47), some (.int (nI q)), some (.int 4), some (.int 5)] [.int 5] (hG σ sr ln Lc μ) rfl ?_
  refine am_call (y := 207) (vs := [.int 5]) (rest := []) (v := (some (.int 0))) (h1 := (hG σ sr ln Lc μ)) rfl rfl rfl (sp_X12_over_5 (d + 1) _) ?_
  refine am_g 8 43 [some (.ref 47), some (.int (nI q)), some (.int 4), some (.int 0)] [] (hG σ sr ln Lc μ) rfl ?_
  refine am_g 1 44 [some (.ref 47), some (.int (nI q)), some (.int 4), some (.int 0)] [.int 0] (hG σ sr ln Lc μ) rfl ?_
  refine am_call (y := 207) (vs := [.int 0]) (rest := []) (v := (some (.int (-1)))) (h1 := (hG σ sr ln Lc μ)) rfl rfl rfl (sp_X12_over_0 (d + 1) _) ?_
  refine am_g 8 65 [some (.ref 47), some (.int (nI q)), some (.int 4), some (.int (-1))] [] (hG σ sr ln Lc μ) rfl ?_
  refine am_g 1 67 [some (.ref 47), some (.int (nI q)), some (.int 4), some (.int (-1))] [.int (-13)] (hG σ sr ln Lc μ) rfl ?_
  exact am_ret2 rfl rfl rfl rfl rfl
theorem sp_X12_taken_55 (d : Nat) {N : Nat} (hN : μ 17 0 = nI N) (hN40 : N ≤ 40) (q : Nat) (hq : q < N) (hs : μ 7 q = 5) : am_X xs LL (d + 3) 208 [.ref 47, .int (nI q), .int 5] (hG σ sr ln Lc μ) (some (.int (μ 8 q))) (hG σ sr ln Lc μ) := by
  refine am_XR (d := d + 2) (C := cd_X12_taken) (L := [some (.ref 47), some (.int (nI q)), some (.int 5), none]) rfl rfl rfl rfl ?_
  refine am_g 4 6 [some (.ref 47), some (.int (nI q)), some (.int 5), none] [.long 5, .long 0, .long ((5 : Int32).toInt64)] (hG σ sr ln Lc μ) rfl ?_
  refine am_call (y := 140) (vs := [.long ((5 : Int32).toInt64), .long 0, .long 5]) (rest := []) (v := (some (.int 1))) (h1 := (hG σ sr ln Lc μ)) rfl rfl rfl (sp_X12_in_b (d + 1) _ _ _ _ (show decide ((0 : Int64) ≤ (5 : Int32).toInt64 ∧ (5 : Int32).toInt64 ≤ 5) = true from by decide)) ?_
  refine am_g 3 17 [some (.ref 47), some (.int (nI q)), some (.int 5), none] [.int (nI q), .ref 47] (hG σ sr ln Lc μ) rfl ?_
  refine am_call (y := 152) (vs := [.ref 47, .int (nI q)]) (rest := []) (v := (some (.int 1))) (h1 := (hG σ sr ln Lc μ)) rfl rfl rfl (sp_X12_isLine (σ := σ) (μ := μ) d _ hN (by omega) (am_in_of_nI hq (by omega))) ?_
  refine am_g 4 31 [some (.ref 47), some (.int (nI q)), some (.int 5), none] [.int (nI q), .ref 53] (hG σ sr ln Lc μ) rfl ?_
  refine am_ialdV (n := 40) (f := (μ 7)) (k := q) (w := 5) rfl rfl (rfl) (by omega) (by decide) (hs) ?_
  refine am_g 8 52 [some (.ref 47), some (.int (nI q)), some (.int 5), some (.int 5)] [.int 5] (hG σ sr ln Lc μ) rfl ?_
  refine am_g 5 61 [some (.ref 47), some (.int (nI q)), some (.int 5), some (.int 5)] [.int (nI q), .ref 54] (hG σ sr ln Lc μ) rfl ?_
  refine am_ialdR (n := 40) (f := (μ 8)) (k := q) rfl rfl (rfl) (by omega) (by decide) ?_
  refine am_g 1 67 [some (.ref 47), some (.int (nI q)), some (.int 5), some (.int 5)] [.int (μ 8 q)] (hG σ sr ln Lc μ) rfl ?_
  exact am_ret2 rfl rfl rfl rfl rfl
theorem sp_X12_taken_bad (d : Nat) (q k : Int32) (hk : am_in k 6 = false) : am_X xs LL (d + 3) 208 [.ref 47, .int q, .int k] (hG σ sr ln Lc μ) (some (.int (-2))) (hG σ sr ln Lc μ) := by
  refine am_XR (d := d + 2) (C := cd_X12_taken) (L := [some (.ref 47), some (.int q), some (.int k), none]) rfl rfl rfl rfl ?_
  refine am_g 4 6 [some (.ref 47), some (.int q), some (.int k), none] [.long 5, .long 0, .long (k.toInt64)] (hG σ sr ln Lc μ) rfl ?_
  refine am_call (y := 140) (vs := [.long (k.toInt64), .long 0, .long 5]) (rest := []) (v := (some (.int 0))) (h1 := (hG σ sr ln Lc μ)) rfl rfl rfl (sp_X12_in_b (d + 1) _ _ _ _ ((am_in64c (n := 6) (by decide)).trans hk)) ?_
  refine am_g 2 14 [some (.ref 47), some (.int q), some (.int k), none] [.int (-2)] (hG σ sr ln Lc μ) rfl ?_
  exact am_ret2 rfl rfl rfl rfl rfl
theorem sp_X12_taken_no (d : Nat) {N : Nat} (hN : μ 17 0 = nI N) (hN40 : N ≤ 40) (q k : Int32) (hk : am_in k 6 = true) (hb : am_in q N = false) : am_X xs LL (d + 3) 208 [.ref 47, .int q, .int k] (hG σ sr ln Lc μ) (some (.int (-11))) (hG σ sr ln Lc μ) := by
  refine am_XR (d := d + 2) (C := cd_X12_taken) (L := [some (.ref 47), some (.int q), some (.int k), none]) rfl rfl rfl rfl ?_
  refine am_g 4 6 [some (.ref 47), some (.int q), some (.int k), none] [.long 5, .long 0, .long (k.toInt64)] (hG σ sr ln Lc μ) rfl ?_
  refine am_call (y := 140) (vs := [.long (k.toInt64), .long 0, .long 5]) (rest := []) (v := (some (.int 1))) (h1 := (hG σ sr ln Lc μ)) rfl rfl rfl (sp_X12_in_b (d + 1) _ _ _ _ ((am_in64c (n := 6) (by decide)).trans hk)) ?_
  refine am_g 3 17 [some (.ref 47), some (.int q), some (.int k), none] [.int q, .ref 47] (hG σ sr ln Lc μ) rfl ?_
  refine am_call (y := 152) (vs := [.ref 47, .int q]) (rest := []) (v := (some (.int 0))) (h1 := (hG σ sr ln Lc μ)) rfl rfl rfl (sp_X12_isLine (σ := σ) (μ := μ) d _ hN (by omega) hb) ?_
  refine am_g 2 25 [some (.ref 47), some (.int q), some (.int k), none] [.int (-11)] (hG σ sr ln Lc μ) rfl ?_
  exact am_ret2 rfl rfl rfl rfl rfl
end TK
