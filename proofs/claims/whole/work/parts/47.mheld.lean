/-! the reference: what is held, what follows -/
theorem pu_b01 (y : Int32) : y &&& 1 = 0 ∨ y &&& 1 = 1 := by
  cases h : bt y 0 with
  | false =>
    left
    apply b_ext
    intro i hi
    rw [b_and, b_0]
    by_cases h0 : i = 0
    · subst h0; rw [h]; rfl
    · rw [(by decide : ∀ i, i < 32 → i ≠ 0 → bt 1 i = false) i hi h0, Bool.and_false]
  | true =>
    right
    apply b_ext
    intro i hi
    rw [b_and]
    by_cases h0 : i = 0
    · subst h0; rw [h]; rfl
    · rw [(by decide : ∀ i, i < 32 → i ≠ 0 → bt 1 i = false) i hi h0, Bool.and_false]
theorem pu_hbF {m : Int32} {p : Nat} (h : am_hb m p = false) : (m >>> (nI p &&& 31)) &&& 1 = 0 := (pu_b01 _).resolve_right (of_decide_eq_false h)
theorem pu_hbT {m : Int32} {p : Nat} (h : am_hb m p = true) : ¬ (m >>> (nI p &&& 31)) &&& 1 = 0 := by
  rw [of_decide_eq_true h]
  decide
theorem pu_hb0 {m : Int32} {p : Nat} (h : (m >>> (nI p &&& 31)) &&& 1 = 0) : am_hb m p = false := by
  cases e : am_hb m p with
  | false => rfl
  | true => exact absurd h (pu_hbT e)
theorem pu_hb1 {m : Int32} {p : Nat} (h : ¬ (m >>> (nI p &&& 31)) &&& 1 = 0) : am_hb m p = true := by
  cases e : am_hb m p with
  | true => rfl
  | false => exact absurd (pu_hbF e) h
theorem nI_s4 {s k : Nat} (hs : s < 6) (h : nI s = nI k) (hk : k < 6 := by decide) : s = k := (nI_eq (by omega) (by omega)).mp h
section MH
variable {xs : Nat → Int32} {LL : Nat} {σ μ ν : Nat → Nat → Int32} {sr : Nat → Nat} {ln : Nat → Nat → Int32} {Lc O : Nat}
theorem sp_X12_holds_ok (d : Nat) (n : Nat) (hn : n < 20) (hw : ∀ d, am_X xs LL (d + 6) 173 [.ref 47, .int 0, .int (-1)] (hG σ sr ln Lc μ) none (hG σ sr ln Lc ν)) : am_X xs LL (d + 7) 174 [.ref 47, .int (nI n)] (hG σ sr ln Lc μ) (some (.int (ν 24 n))) (hG σ sr ln Lc ν) := by
  refine am_XR (d := d + 6) (C := cd_X12_holds) (L := [some (.ref 47), some (.int (nI n))]) rfl rfl rfl rfl ?_
  refine am_g 1 1 [some (.ref 47), some (.int (nI n))] [.int (nI n)] (hG σ sr ln Lc μ) rfl ?_
  refine am_call (y := 143) (vs := [.int (nI n)]) (rest := []) (v := (some (.int 1))) (h1 := (hG σ sr ln Lc μ)) rfl rfl rfl (sp_X12_isName (d + 4) _ _ (am_in_of_nI hn (by omega))) ?_
  refine am_g 4 13 [some (.ref 47), some (.int (nI n))] [.int (-1), .int 0, .ref 47] (hG σ sr ln Lc μ) rfl ?_
  refine am_call (y := 173) (vs := [.ref 47, .int 0, .int (-1)]) (rest := []) (v := none) (h1 := (hG σ sr ln Lc ν)) rfl rfl rfl (hw d) ?_
  refine am_g 3 21 [some (.ref 47), some (.int (nI n))] [.int (nI n), .ref 65] (hG σ sr ln Lc ν) rfl ?_
  refine am_ialdR (n := 68) (f := (ν 24)) (k := n) rfl rfl (rfl) (by omega) (by decide) ?_
  exact am_ret2 rfl rfl rfl rfl rfl
theorem sp_X12_holds_bad (d : Nat) (n : Int32) (hb : am_in n 20 = false) : am_X xs LL (d + 3) 174 [.ref 47, .int n] (hG σ sr ln Lc μ) (some (.int (-2))) (hG σ sr ln Lc μ) := by
  refine am_XR (d := d + 2) (C := cd_X12_holds) (L := [some (.ref 47), some (.int n)]) rfl rfl rfl rfl ?_
  refine am_g 1 1 [some (.ref 47), some (.int n)] [.int n] (hG σ sr ln Lc μ) rfl ?_
  refine am_call (y := 143) (vs := [.int n]) (rest := []) (v := (some (.int 0))) (h1 := (hG σ sr ln Lc μ)) rfl rfl rfl (sp_X12_isName d _ _ hb) ?_
  refine am_g 2 9 [some (.ref 47), some (.int n)] [.int (-2)] (hG σ sr ln Lc μ) rfl ?_
  exact am_ret2 rfl rfl rfl rfl rfl
theorem sp_X12_byKinds_ok (d : Nat) (n : Nat) (hn : n < 20) (hw : ∀ d, am_X xs LL (d + 6) 173 [.ref 47, .int 1, .int (-1)] (hG σ sr ln Lc μ) none (hG σ sr ln Lc ν)) : am_X xs LL (d + 7) 178 [.ref 47, .int (nI n)] (hG σ sr ln Lc μ) (some (.int (ν 24 n))) (hG σ sr ln Lc ν) := by
  refine am_XR (d := d + 6) (C := cd_X12_byKinds) (L := [some (.ref 47), some (.int (nI n))]) rfl rfl rfl rfl ?_
  refine am_g 1 1 [some (.ref 47), some (.int (nI n))] [.int (nI n)] (hG σ sr ln Lc μ) rfl ?_
  refine am_call (y := 143) (vs := [.int (nI n)]) (rest := []) (v := (some (.int 1))) (h1 := (hG σ sr ln Lc μ)) rfl rfl rfl (sp_X12_isName (d + 4) _ _ (am_in_of_nI hn (by omega))) ?_
  refine am_g 4 13 [some (.ref 47), some (.int (nI n))] [.int (-1), .int 1, .ref 47] (hG σ sr ln Lc μ) rfl ?_
  refine am_call (y := 173) (vs := [.ref 47, .int 1, .int (-1)]) (rest := []) (v := none) (h1 := (hG σ sr ln Lc ν)) rfl rfl rfl (hw d) ?_
  refine am_g 3 21 [some (.ref 47), some (.int (nI n))] [.int (nI n), .ref 65] (hG σ sr ln Lc ν) rfl ?_
  refine am_ialdR (n := 68) (f := (ν 24)) (k := n) rfl rfl (rfl) (by omega) (by decide) ?_
  exact am_ret2 rfl rfl rfl rfl rfl
theorem sp_X12_byKinds_bad (d : Nat) (n : Int32) (hb : am_in n 20 = false) : am_X xs LL (d + 3) 178 [.ref 47, .int n] (hG σ sr ln Lc μ) (some (.int (-2))) (hG σ sr ln Lc μ) := by
  refine am_XR (d := d + 2) (C := cd_X12_byKinds) (L := [some (.ref 47), some (.int n)]) rfl rfl rfl rfl ?_
  refine am_g 1 1 [some (.ref 47), some (.int n)] [.int n] (hG σ sr ln Lc μ) rfl ?_
  refine am_call (y := 143) (vs := [.int n]) (rest := []) (v := (some (.int 0))) (h1 := (hG σ sr ln Lc μ)) rfl rfl rfl (sp_X12_isName d _ _ hb) ?_
  refine am_g 2 9 [some (.ref 47), some (.int n)] [.int (-2)] (hG σ sr ln Lc μ) rfl ?_
  exact am_ret2 rfl rfl rfl rfl rfl
theorem sp_X12_field_ok (d : Nat) (hO : μ 19 0 = nI O) (hO16 : O ≤ 16) (o f : Nat) (ho : o < O) (hf3 : f < 3) (hw : ∀ d, am_X xs LL (d + 6) 173 [.ref 47, .int 0, .int (-1)] (hG σ sr ln Lc μ) none (hG σ sr ln Lc ν)) : am_X xs LL (d + 7) 175 [.ref 47, .int (nI o), .int (nI f)] (hG σ sr ln Lc μ) (some (.int (ν 24 (20 + 3 * o + f)))) (hG σ sr ln Lc ν) := by
  refine am_XR (d := d + 6) (C := cd_X12_field) (L := [some (.ref 47), some (.int (nI o)), some (.int (nI f))]) rfl rfl rfl rfl ?_
  refine am_g 2 2 [some (.ref 47), some (.int (nI o)), some (.int (nI f))] [.int (nI o), .ref 47] (hG σ sr ln Lc μ) rfl ?_
  refine am_call (y := 153) (vs := [.ref 47, .int (nI o)]) (rest := []) (v := (some (.int 1))) (h1 := (hG σ sr ln Lc μ)) rfl rfl rfl (sp_X12_isObject (σ := σ) (μ := μ) (d + 4) _ hO (by omega) (am_in_of_nI ho (by omega))) ?_
  refine am_g 5 14 [some (.ref 47), some (.int (nI o)), some (.int (nI f))] [.long 2, .long 0, .long ((nI f).toInt64)] (hG σ sr ln Lc μ) rfl ?_
  refine am_call (y := 140) (vs := [.long ((nI f).toInt64), .long 0, .long 2]) (rest := []) (v := (some (.int 1))) (h1 := (hG σ sr ln Lc μ)) rfl rfl rfl (sp_X12_in_b (d + 5) _ _ _ _ ((am_in64c (by decide)).trans (am_in_of_nI hf3 (by omega)))) ?_
  refine am_g 4 26 [some (.ref 47), some (.int (nI o)), some (.int (nI f))] [.int (-1), .int 0, .ref 47] (hG σ sr ln Lc μ) rfl ?_
  refine am_call (y := 173) (vs := [.ref 47, .int 0, .int (-1)]) (rest := []) (v := none) (h1 := (hG σ sr ln Lc ν)) rfl rfl rfl (hw d) ?_
  refine am_g 4 35 [some (.ref 47), some (.int (nI o)), some (.int (nI f))] [.int (nI f), .int (nI o), .ref 65] (hG σ sr ln Lc ν) rfl ?_
  refine am_call (y := 167) (vs := [.int (nI o), .int (nI f)]) (rest := [.ref 65]) (v := (some (.int (nI (20 + 3 * o + f))))) (h1 := (hG σ sr ln Lc ν)) rfl rfl rfl (sp_X12_fieldAt (d + 5) _ o f (by omega) (by omega)) ?_
  refine am_ialdR (n := 68) (f := (ν 24)) (k := (20 + 3 * o + f)) rfl rfl (rfl) (by omega) (by decide) ?_
  exact am_ret2 rfl rfl rfl rfl rfl
theorem sp_X12_field_bad1 (d : Nat) (hO : μ 19 0 = nI O) (hO16 : O ≤ 16) (o f : Int32) (hb : am_in o O = false) : am_X xs LL (d + 3) 175 [.ref 47, .int o, .int f] (hG σ sr ln Lc μ) (some (.int (-2))) (hG σ sr ln Lc μ) := by
  refine am_XR (d := d + 2) (C := cd_X12_field) (L := [some (.ref 47), some (.int o), some (.int f)]) rfl rfl rfl rfl ?_
  refine am_g 2 2 [some (.ref 47), some (.int o), some (.int f)] [.int o, .ref 47] (hG σ sr ln Lc μ) rfl ?_
  refine am_call (y := 153) (vs := [.ref 47, .int o]) (rest := []) (v := (some (.int 0))) (h1 := (hG σ sr ln Lc μ)) rfl rfl rfl (sp_X12_isObject (σ := σ) (μ := μ) d _ hO (by omega) hb) ?_
  refine am_g 2 22 [some (.ref 47), some (.int o), some (.int f)] [.int (-2)] (hG σ sr ln Lc μ) rfl ?_
  exact am_ret2 rfl rfl rfl rfl rfl
theorem sp_X12_field_bad2 (d : Nat) (hO : μ 19 0 = nI O) (hO16 : O ≤ 16) (o : Nat) (f : Int32) (ho : o < O) (hb : am_in f 3 = false) : am_X xs LL (d + 3) 175 [.ref 47, .int (nI o), .int f] (hG σ sr ln Lc μ) (some (.int (-2))) (hG σ sr ln Lc μ) := by
  refine am_XR (d := d + 2) (C := cd_X12_field) (L := [some (.ref 47), some (.int (nI o)), some (.int f)]) rfl rfl rfl rfl ?_
  refine am_g 2 2 [some (.ref 47), some (.int (nI o)), some (.int f)] [.int (nI o), .ref 47] (hG σ sr ln Lc μ) rfl ?_
  refine am_call (y := 153) (vs := [.ref 47, .int (nI o)]) (rest := []) (v := (some (.int 1))) (h1 := (hG σ sr ln Lc μ)) rfl rfl rfl (sp_X12_isObject (σ := σ) (μ := μ) d _ hO (by omega) (am_in_of_nI ho (by omega))) ?_
  refine am_g 5 14 [some (.ref 47), some (.int (nI o)), some (.int f)] [.long 2, .long 0, .long (f.toInt64)] (hG σ sr ln Lc μ) rfl ?_
  refine am_call (y := 140) (vs := [.long (f.toInt64), .long 0, .long 2]) (rest := []) (v := (some (.int 0))) (h1 := (hG σ sr ln Lc μ)) rfl rfl rfl (sp_X12_in_b (d + 1) _ _ _ _ ((am_in64c (by decide)).trans hb)) ?_
  refine am_g 2 22 [some (.ref 47), some (.int (nI o)), some (.int f)] [.int (-2)] (hG σ sr ln Lc μ) rfl ?_
  exact am_ret2 rfl rfl rfl rfl rfl
theorem sp_X12_still (d : Nat) (hw : ∀ d, am_X xs LL (d + 6) 173 [.ref 47, .int 0, .int (-1)] (hG σ sr ln Lc μ) none (hG σ sr ln Lc ν)) : am_X xs LL (d + 7) 176 [.ref 47] (hG σ sr ln Lc μ) (some (.int (ν 26 0))) (hG σ sr ln Lc ν) := by
  refine am_XR (d := d + 6) (C := cd_X12_still) (L := [some (.ref 47)]) rfl rfl rfl rfl ?_
  refine am_g 3 3 [some (.ref 47)] [.int (-1), .int 0, .ref 47] (hG σ sr ln Lc μ) rfl ?_
  refine am_call (y := 173) (vs := [.ref 47, .int 0, .int (-1)]) (rest := []) (v := none) (h1 := (hG σ sr ln Lc ν)) rfl rfl rfl (hw d) ?_
  refine am_g 2 10 [some (.ref 47)] [.int (ν 26 0)] (hG σ sr ln Lc ν) rfl ?_
  exact am_ret2 rfl rfl rfl rfl rfl
theorem sp_X12_cast_bad (d : Nat) (hL : μ 17 0 = nI Lc) (hL40 : Lc ≤ 40) (q : Int32) (hb : am_in q Lc = false) : am_X xs LL (d + 3) 183 [.ref 47, .int q] (hG σ sr ln Lc μ) (some (.int (-2))) (hG σ sr ln Lc μ) := by
  refine am_XR (d := d + 2) (C := cd_X12_cast) (L := [some (.ref 47), some (.int q), none, none]) rfl rfl rfl rfl ?_
  refine am_g 2 2 [some (.ref 47), some (.int q), none, none] [.int q, .ref 47] (hG σ sr ln Lc μ) rfl ?_
  refine am_call (y := 152) (vs := [.ref 47, .int q]) (rest := []) (v := (some (.int 0))) (h1 := (hG σ sr ln Lc μ)) rfl rfl rfl (sp_X12_isLine (σ := σ) (μ := μ) d _ hL (by omega) hb) ?_
  refine am_g 2 10 [some (.ref 47), some (.int q), none, none] [.int (-2)] (hG σ sr ln Lc μ) rfl ?_
  exact am_ret2 rfl rfl rfl rfl rfl
theorem sp_X12_cast_state (d : Nat) (hL : μ 17 0 = nI Lc) (hL40 : Lc ≤ 40) (q : Nat) (hq : q < Lc) (hs : ¬ μ 7 q = 1) : am_X xs LL (d + 3) 183 [.ref 47, .int (nI q)] (hG σ sr ln Lc μ) (some (.int (-3))) (hG σ sr ln Lc μ) := by
  refine am_XR (d := d + 2) (C := cd_X12_cast) (L := [some (.ref 47), some (.int (nI q)), none, none]) rfl rfl rfl rfl ?_
  refine am_g 2 2 [some (.ref 47), some (.int (nI q)), none, none] [.int (nI q), .ref 47] (hG σ sr ln Lc μ) rfl ?_
  refine am_call (y := 152) (vs := [.ref 47, .int (nI q)]) (rest := []) (v := (some (.int 1))) (h1 := (hG σ sr ln Lc μ)) rfl rfl rfl (sp_X12_isLine (σ := σ) (μ := μ) d _ hL (by omega) (am_in_of_nI hq (by omega))) ?_
  refine am_g 4 16 [some (.ref 47), some (.int (nI q)), none, none] [.int (nI q), .ref 53] (hG σ sr ln Lc μ) rfl ?_
  refine am_ialdR (n := 40) (f := (μ 7)) (k := q) rfl rfl (rfl) (by omega) (by decide) ?_
  refine am_g 2 (if (μ 7 q) = 1 then 24 else 21) [some (.ref 47), some (.int (nI q)), none, none] [] (hG σ sr ln Lc μ) rfl ?_
  rw [if_neg (show ¬ (μ 7 q) = 1 from hs)]
  refine am_g 1 23 [some (.ref 47), some (.int (nI q)), none, none] [.int (-3)] (hG σ sr ln Lc μ) rfl ?_
  exact am_ret2 rfl rfl rfl rfl rfl
theorem sp_X12_aims_bad (d : Nat) (hL : μ 17 0 = nI Lc) (hL40 : Lc ≤ 40) (q : Int32) (hb : am_in q Lc = false) : am_X xs LL (d + 3) 185 [.ref 47, .int q] (hG σ sr ln Lc μ) (some (.int (-2))) (hG σ sr ln Lc μ) := by
  refine am_XR (d := d + 2) (C := cd_X12_aims) (L := [some (.ref 47), some (.int q)]) rfl rfl rfl rfl ?_
  refine am_g 2 2 [some (.ref 47), some (.int q)] [.int q, .ref 47] (hG σ sr ln Lc μ) rfl ?_
  refine am_call (y := 152) (vs := [.ref 47, .int q]) (rest := []) (v := (some (.int 0))) (h1 := (hG σ sr ln Lc μ)) rfl rfl rfl (sp_X12_isLine (σ := σ) (μ := μ) d _ hL (by omega) hb) ?_
  refine am_g 2 10 [some (.ref 47), some (.int q)] [.int (-2)] (hG σ sr ln Lc μ) rfl ?_
  exact am_ret2 rfl rfl rfl rfl rfl
theorem sp_X12_aims_state (d : Nat) (hL : μ 17 0 = nI Lc) (hL40 : Lc ≤ 40) (q : Nat) (hq : q < Lc) (hs : ¬ μ 7 q = 4) : am_X xs LL (d + 3) 185 [.ref 47, .int (nI q)] (hG σ sr ln Lc μ) (some (.int (-3))) (hG σ sr ln Lc μ) := by
  refine am_XR (d := d + 2) (C := cd_X12_aims) (L := [some (.ref 47), some (.int (nI q))]) rfl rfl rfl rfl ?_
  refine am_g 2 2 [some (.ref 47), some (.int (nI q))] [.int (nI q), .ref 47] (hG σ sr ln Lc μ) rfl ?_
  refine am_call (y := 152) (vs := [.ref 47, .int (nI q)]) (rest := []) (v := (some (.int 1))) (h1 := (hG σ sr ln Lc μ)) rfl rfl rfl (sp_X12_isLine (σ := σ) (μ := μ) d _ hL (by omega) (am_in_of_nI hq (by omega))) ?_
  refine am_g 4 16 [some (.ref 47), some (.int (nI q))] [.int (nI q), .ref 53] (hG σ sr ln Lc μ) rfl ?_
  refine am_ialdR (n := 40) (f := (μ 7)) (k := q) rfl rfl (rfl) (by omega) (by decide) ?_
  refine am_g 2 (if (μ 7 q) = 4 then 24 else 21) [some (.ref 47), some (.int (nI q))] [] (hG σ sr ln Lc μ) rfl ?_
  rw [if_neg (show ¬ (μ 7 q) = 4 from hs)]
  refine am_g 1 23 [some (.ref 47), some (.int (nI q))] [.int (-3)] (hG σ sr ln Lc μ) rfl ?_
  exact am_ret2 rfl rfl rfl rfl rfl
theorem sp_X12_cast_ok (d : Nat) (hL : μ 17 0 = nI Lc) (hL40 : Lc ≤ 40) (q : Nat) (hq : q < Lc) (hs : μ 7 q = 1) {b : Nat} (hb : b < 20) (h1 : ν 9 q = nI b) (h2 : ν 10 q = ln q 2) (hab : am_wab (ν 1)) (kf : Nat → Int32) (hkf : ∀ o, o < 16 → (ν 24 b >>> (nI o &&& 31)) &&& 1 = 1 → (kf o = -1 ∨ ∃ j, j < 8 ∧ kf o = nI j) ∧ ∀ d, am_X xs LL (d + 2) 166 [.ref 47, .int (nI o)] (hG σ sr ln Lc ν) (some (.int (kf o))) (hG σ sr ln Lc ν)) (hw : ∀ d, am_X xs LL (d + 6) 173 [.ref 47, .int 0, .int (-1)] (hG σ sr ln Lc μ) none (hG σ sr ln Lc ν)) : am_X xs LL (d + 7) 183 [.ref 47, .int (nI q)] (hG σ sr ln Lc μ) (some (.int (if (am_orF (am_okF (ν 1) kf (ν 24 b) (ln q 2)) 16) = (ν 24 b) then 0 else if (am_orF (am_okF (ν 1) kf (ν 24 b) (ln q 2)) 16) = 0 then 2 else 1))) (hG σ sr ln Lc ν) := by
  refine am_XR (d := d + 6) (C := cd_X12_cast) (L := [some (.ref 47), some (.int (nI q)), none, none]) rfl rfl rfl rfl ?_
  refine am_g 2 2 [some (.ref 47), some (.int (nI q)), none, none] [.int (nI q), .ref 47] (hG σ sr ln Lc μ) rfl ?_
  refine am_call (y := 152) (vs := [.ref 47, .int (nI q)]) (rest := []) (v := (some (.int 1))) (h1 := (hG σ sr ln Lc μ)) rfl rfl rfl (sp_X12_isLine (σ := σ) (μ := μ) (d + 4) _ hL (by omega) (am_in_of_nI hq (by omega))) ?_
  refine am_g 4 16 [some (.ref 47), some (.int (nI q)), none, none] [.int (nI q), .ref 53] (hG σ sr ln Lc μ) rfl ?_
  refine am_ialdR (n := 40) (f := (μ 7)) (k := q) rfl rfl (rfl) (by omega) (by decide) ?_
  refine am_g 2 (if (μ 7 q) = 1 then 24 else 21) [some (.ref 47), some (.int (nI q)), none, none] [] (hG σ sr ln Lc μ) rfl ?_
  rw [if_pos (show (μ 7 q) = 1 from hs)]
  refine am_g 3 27 [some (.ref 47), some (.int (nI q)), none, none] [.int (-1), .int 0, .ref 47] (hG σ sr ln Lc μ) rfl ?_
  refine am_call (y := 173) (vs := [.ref 47, .int 0, .int (-1)]) (rest := []) (v := none) (h1 := (hG σ sr ln Lc ν)) rfl rfl rfl (hw d) ?_
  refine am_g 5 39 [some (.ref 47), some (.int (nI q)), none, none] [.int (nI q), .ref 55, .ref 65] (hG σ sr ln Lc ν) rfl ?_
  refine am_ialdV (n := 40) (f := (ν 9)) (k := q) (w := (nI b)) rfl rfl (rfl) (by omega) (by decide) (h1) ?_
  refine am_ialdR (n := 68) (f := (ν 24)) (k := b) rfl rfl (rfl) (by omega) (by decide) ?_
  refine am_g 6 49 [some (.ref 47), some (.int (nI q)), some (.int (ν 24 b)), none] [.int (nI q), .ref 56, .int (ν 24 b), .ref 47] (hG σ sr ln Lc ν) rfl ?_
  refine am_ialdV (n := 40) (f := (ν 10)) (k := q) (w := (ln q 2)) rfl rfl (rfl) (by omega) (by decide) (h2) ?_
  refine am_call (y := 168) (vs := [.ref 47, .int (ν 24 b), .int (ln q 2)]) (rest := []) (v := (some (.int (am_orF (am_okF (ν 1) kf (ν 24 b) (ln q 2)) 16)))) (h1 := (hG σ sr ln Lc ν)) rfl rfl rfl (sp_X12_ofKind (σ := σ) (μ := ν) (d + 3) hab _ _ kf hkf) ?_
  refine am_g 4 (if (am_orF (am_okF (ν 1) kf (ν 24 b) (ln q 2)) 16) = (ν 24 b) then 59 else 63) [some (.ref 47), some (.int (nI q)), some (.int (ν 24 b)), some (.int (am_orF (am_okF (ν 1) kf (ν 24 b) (ln q 2)) 16))] [] (hG σ sr ln Lc ν) rfl (am_brR (fun c1 => ?_) (fun c1 => ?_))
  · skip
    refine am_g 2 72 [some (.ref 47), some (.int (nI q)), some (.int (ν 24 b)), some (.int (am_orF (am_okF (ν 1) kf (ν 24 b) (ln q 2)) 16))] [.int 0] (hG σ sr ln Lc ν) rfl ?_
    exact am_ret2 rfl rfl rfl (by rw [if_pos c1]) rfl
  · skip
    refine am_g 2 (if (am_orF (am_okF (ν 1) kf (ν 24 b) (ln q 2)) 16) = 0 then 71 else 67) [some (.ref 47), some (.int (nI q)), some (.int (ν 24 b)), some (.int (am_orF (am_okF (ν 1) kf (ν 24 b) (ln q 2)) 16))] [] (hG σ sr ln Lc ν) rfl (am_brR (fun c2 => ?_) (fun c2 => ?_))
    · skip
      refine am_g 1 72 [some (.ref 47), some (.int (nI q)), some (.int (ν 24 b)), some (.int (am_orF (am_okF (ν 1) kf (ν 24 b) (ln q 2)) 16))] [.int 2] (hG σ sr ln Lc ν) rfl ?_
      exact am_ret2 rfl rfl rfl (by rw [if_neg c1, if_pos c2]) rfl
    · skip
      refine am_g 2 72 [some (.ref 47), some (.int (nI q)), some (.int (ν 24 b)), some (.int (am_orF (am_okF (ν 1) kf (ν 24 b) (ln q 2)) 16))] [.int 1] (hG σ sr ln Lc ν) rfl ?_
      exact am_ret2 rfl rfl rfl (by rw [if_neg c1, if_neg c2]) rfl
theorem sp_X12_aimsOf (d : Nat) (hO : ν 19 0 = nI O) (hO16 : O ≤ 16) (q : Nat) (hq : q < 40) {b : Nat} (hb : b < 20) (h1 : ν 9 q = nI b) {n : Nat} (hn3 : n < 3) (h2 : ν 10 q = nI n) (hab : am_wab (ν 1)) (kf : Nat → Int32) (hkf : ∀ o, o < O → am_pl 8 (kf o) ∧ ∀ d, am_X xs LL (d + 1) 154 [.ref 47, .int (nI o)] (hG σ sr ln Lc ν) (some (.int (kf o))) (hG σ sr ln Lc ν)) : am_X xs LL (d + 2) 184 [.ref 47, .int (nI q)] (hG σ sr ln Lc ν) (some (.int (am_it (pu_aiS kf (ν 1) (ν 2) (ν 24 b) n) 0 O))) (hG σ sr ln Lc ν) := by
  refine am_XR (d := d + 1) (C := cd_X12_aimsOf) (L := [some (.ref 47), some (.int (nI q)), none, none, none]) rfl rfl rfl rfl ?_
  refine am_g 4 4 [some (.ref 47), some (.int (nI q)), some (.int 0), some (.int 0), none] [] (hG σ sr ln Lc ν) rfl ?_
  have lp : ∀ (r o : Nat) (w : Option Value), o + r = O → am_R xs LL cd_X12_aimsOf (am_X xs LL (d + 1)) 4 [some (.ref 47), some (.int (nI q)), some (.int (am_it (pu_aiS kf (ν 1) (ν 2) (ν 24 b) n) 0 o)), some (.int (nI o)), w] [] (hG σ sr ln Lc ν) (some (.int (am_it (pu_aiS kf (ν 1) (ν 2) (ν 24 b) n) 0 O))) (hG σ sr ln Lc ν) := by
    intro r
    induction r with
    | zero =>
      intro o w hi
      have hi2 : o = O := by omega
      rw [hi2]
      refine am_g 3 9 [some (.ref 47), some (.int (nI q)), some (.int (am_it (pu_aiS kf (ν 1) (ν 2) (ν 24 b) n) 0 O)), some (.int (nI O)), w] [.int (ν 19 0), .int (nI O)] (hG σ sr ln Lc ν) rfl ?_
      rw [show (ν 19 0) = (nI O) from hO]
      refine am_g 1 (if (nI O) ≤ (nI O) then 75 else 12) [some (.ref 47), some (.int (nI q)), some (.int (am_it (pu_aiS kf (ν 1) (ν 2) (ν 24 b) n) 0 O)), some (.int (nI O)), w] [] (hG σ sr ln Lc ν) rfl ?_
      rw [if_pos (show (nI O) ≤ (nI O) from (am_dle (a := O) (b := O) (rfl) (rfl) (by omega) (by omega) (by omega)))]
      refine am_g 1 76 [some (.ref 47), some (.int (nI q)), some (.int (am_it (pu_aiS kf (ν 1) (ν 2) (ν 24 b) n) 0 O)), some (.int (nI O)), w] [.int (am_it (pu_aiS kf (ν 1) (ν 2) (ν 24 b) n) 0 O)] (hG σ sr ln Lc ν) rfl ?_
      exact am_ret2 rfl rfl rfl rfl rfl
    | succ r ih =>
      intro o w hi
      have hi2 : o < O := by omega
      refine am_g 3 9 [some (.ref 47), some (.int (nI q)), some (.int (am_it (pu_aiS kf (ν 1) (ν 2) (ν 24 b) n) 0 o)), some (.int (nI o)), w] [.int (ν 19 0), .int (nI o)] (hG σ sr ln Lc ν) rfl ?_
      rw [show (ν 19 0) = (nI O) from hO]
      refine am_g 1 (if (nI O) ≤ (nI o) then 75 else 12) [some (.ref 47), some (.int (nI q)), some (.int (am_it (pu_aiS kf (ν 1) (ν 2) (ν 24 b) n) 0 o)), some (.int (nI o)), w] [] (hG σ sr ln Lc ν) rfl ?_
      rw [if_neg (show ¬ (nI O) ≤ (nI o) from (am_dnle (a := O) (b := o) (rfl) (rfl) (by omega) (by omega) (by omega)))]
      refine am_g 5 21 [some (.ref 47), some (.int (nI q)), some (.int (am_it (pu_aiS kf (ν 1) (ν 2) (ν 24 b) n) 0 o)), some (.int (nI o)), w] [.int (nI q), .ref 55, .ref 65] (hG σ sr ln Lc ν) rfl ?_
      refine am_ialdV (n := 40) (f := (ν 9)) (k := q) (w := (nI b)) rfl rfl (rfl) (by omega) (by decide) (h1) ?_
      refine am_ialdR (n := 68) (f := (ν 24)) (k := b) rfl rfl (rfl) (by omega) (by decide) ?_
      refine am_g 6 (if (((ν 24 b) >>> ((nI o) &&& 31)) &&& 1) = 1 then 31 else 49) [some (.ref 47), some (.int (nI q)), some (.int (am_it (pu_aiS kf (ν 1) (ν 2) (ν 24 b) n) 0 o)), some (.int (nI o)), w] [] (hG σ sr ln Lc ν) rfl (am_brR (fun c1 => ?_) (fun c1 => ?_))
      · skip
        refine am_g 3 34 [some (.ref 47), some (.int (nI q)), some (.int (am_it (pu_aiS kf (ν 1) (ν 2) (ν 24 b) n) 0 o)), some (.int (nI o)), w] [.int (nI o), .ref 47, .ref 47] (hG σ sr ln Lc ν) rfl ?_
        refine am_call (y := 154) (vs := [.ref 47, .int (nI o)]) (rest := [.ref 47]) (v := (some (.int (kf o)))) (h1 := (hG σ sr ln Lc ν)) rfl rfl rfl ((hkf o (by omega)).2 d) ?_
        refine am_g 3 42 [some (.ref 47), some (.int (nI q)), some (.int (am_it (pu_aiS kf (ν 1) (ν 2) (ν 24 b) n) 0 o)), some (.int (nI o)), w] [.int (nI q), .ref 56, .int (kf o), .ref 47] (hG σ sr ln Lc ν) rfl ?_
        refine am_ialdV (n := 40) (f := (ν 10)) (k := q) (w := (nI n)) rfl rfl (rfl) (by omega) (by decide) (h2) ?_
        refine am_call (y := 147) (vs := [.ref 47, .int (kf o), .int (nI n)]) (rest := []) (v := (some (.int (am_aimF (ν 1) (ν 2) n 9 (kf o))))) (h1 := (hG σ sr ln Lc ν)) rfl rfl rfl (sp_X12_aimOf (σ := σ) (μ := ν) d hab _ n (hkf o (by omega)).1 hn3) ?_
        refine am_g 6 (if (am_aimF (ν 1) (ν 2) n 9 (kf o)) = (-1) then 59 else 63) [some (.ref 47), some (.int (nI q)), some (.int (am_it (pu_aiS kf (ν 1) (ν 2) (ν 24 b) n) 0 o)), some (.int (nI o)), some (.int (am_aimF (ν 1) (ν 2) n 9 (kf o)))] [.int (am_it (pu_aiS kf (ν 1) (ν 2) (ν 24 b) n) 0 o)] (hG σ sr ln Lc ν) rfl (am_brR (fun c2 => ?_) (fun c2 => ?_))
        · skip
          refine am_g 6 4 [some (.ref 47), some (.int (nI q)), some (.int ((am_it (pu_aiS kf (ν 1) (ν 2) (ν 24 b) n) 0 o) ||| 0)), some (.int ((nI o) + 1)), some (.int (am_aimF (ν 1) (ν 2) n 9 (kf o)))] [] (hG σ sr ln Lc ν) rfl ?_
          rw [nI_up, ← (show am_it (pu_aiS kf (ν 1) (ν 2) (ν 24 b) n) 0 (o + 1) = ((am_it (pu_aiS kf (ν 1) (ν 2) (ν 24 b) n) 0 o) ||| 0) from (by rw [am_itS]; unfold pu_aiS; rw [show am_hb (ν 24 b) o = true from decide_eq_true c1, cond_true, if_pos c2, am_or0]))]
          exact ih (o + 1) _ (by omega)
        · skip
          refine am_g 7 4 [some (.ref 47), some (.int (nI q)), some (.int ((am_it (pu_aiS kf (ν 1) (ν 2) (ν 24 b) n) 0 o) ||| (1 <<< ((am_aimF (ν 1) (ν 2) n 9 (kf o)) &&& 31)))), some (.int ((nI o) + 1)), some (.int (am_aimF (ν 1) (ν 2) n 9 (kf o)))] [] (hG σ sr ln Lc ν) rfl ?_
          rw [nI_up, ← (show am_it (pu_aiS kf (ν 1) (ν 2) (ν 24 b) n) 0 (o + 1) = ((am_it (pu_aiS kf (ν 1) (ν 2) (ν 24 b) n) 0 o) ||| (1 <<< ((am_aimF (ν 1) (ν 2) n 9 (kf o)) &&& 31))) from (by rw [am_itS]; unfold pu_aiS; rw [show am_hb (ν 24 b) o = true from decide_eq_true c1, cond_true, if_neg c2]))]
          exact ih (o + 1) _ (by omega)
      · skip
        refine am_g 12 4 [some (.ref 47), some (.int (nI q)), some (.int ((am_it (pu_aiS kf (ν 1) (ν 2) (ν 24 b) n) 0 o) ||| 0)), some (.int ((nI o) + 1)), some (.int (-1))] [] (hG σ sr ln Lc ν) rfl ?_
        rw [nI_up, ← (show am_it (pu_aiS kf (ν 1) (ν 2) (ν 24 b) n) 0 (o + 1) = ((am_it (pu_aiS kf (ν 1) (ν 2) (ν 24 b) n) 0 o) ||| 0) from (by rw [am_itS]; unfold pu_aiS; rw [show am_hb (ν 24 b) o = false from decide_eq_false c1, cond_false, am_or0]))]
        exact ih (o + 1) _ (by omega)
  exact lp O 0 none (by omega)
theorem sp_X12_aims_ok (d : Nat) (hL : μ 17 0 = nI Lc) (hL40 : Lc ≤ 40) (q : Nat) (hq : q < Lc) (hs : μ 7 q = 4) (hO : ν 19 0 = nI O) (hO16 : O ≤ 16) {b : Nat} (hb : b < 20) (h1 : ν 9 q = nI b) {n : Nat} (hn3 : n < 3) (h2 : ν 10 q = nI n) (hab : am_wab (ν 1)) (kf : Nat → Int32) (hkf : ∀ o, o < O → am_pl 8 (kf o) ∧ ∀ d, am_X xs LL (d + 1) 154 [.ref 47, .int (nI o)] (hG σ sr ln Lc ν) (some (.int (kf o))) (hG σ sr ln Lc ν)) (hw : ∀ d, am_X xs LL (d + 6) 173 [.ref 47, .int 0, .int (-1)] (hG σ sr ln Lc μ) none (hG σ sr ln Lc ν)) : am_X xs LL (d + 7) 185 [.ref 47, .int (nI q)] (hG σ sr ln Lc μ) (some (.int (am_it (pu_aiS kf (ν 1) (ν 2) (ν 24 b) n) 0 O))) (hG σ sr ln Lc ν) := by
  refine am_XR (d := d + 6) (C := cd_X12_aims) (L := [some (.ref 47), some (.int (nI q))]) rfl rfl rfl rfl ?_
  refine am_g 2 2 [some (.ref 47), some (.int (nI q))] [.int (nI q), .ref 47] (hG σ sr ln Lc μ) rfl ?_
  refine am_call (y := 152) (vs := [.ref 47, .int (nI q)]) (rest := []) (v := (some (.int 1))) (h1 := (hG σ sr ln Lc μ)) rfl rfl rfl (sp_X12_isLine (σ := σ) (μ := μ) (d + 4) _ hL (by omega) (am_in_of_nI hq (by omega))) ?_
  refine am_g 4 16 [some (.ref 47), some (.int (nI q))] [.int (nI q), .ref 53] (hG σ sr ln Lc μ) rfl ?_
  refine am_ialdR (n := 40) (f := (μ 7)) (k := q) rfl rfl (rfl) (by omega) (by decide) ?_
  refine am_g 2 (if (μ 7 q) = 4 then 24 else 21) [some (.ref 47), some (.int (nI q))] [] (hG σ sr ln Lc μ) rfl ?_
  rw [if_pos (show (μ 7 q) = 4 from hs)]
  refine am_g 3 27 [some (.ref 47), some (.int (nI q))] [.int (-1), .int 0, .ref 47] (hG σ sr ln Lc μ) rfl ?_
  refine am_call (y := 173) (vs := [.ref 47, .int 0, .int (-1)]) (rest := []) (v := none) (h1 := (hG σ sr ln Lc ν)) rfl rfl rfl (hw d) ?_
  refine am_g 2 32 [some (.ref 47), some (.int (nI q))] [.int (nI q), .ref 47] (hG σ sr ln Lc ν) rfl ?_
  refine am_call (y := 184) (vs := [.ref 47, .int (nI q)]) (rest := []) (v := (some (.int (am_it (pu_aiS kf (ν 1) (ν 2) (ν 24 b) n) 0 O)))) (h1 := (hG σ sr ln Lc ν)) rfl rfl rfl (sp_X12_aimsOf (d + 4) hO hO16 q (by omega) hb h1 hn3 h2 hab kf hkf) ?_
  exact am_ret2 rfl rfl rfl rfl rfl
def pu_aiVO (kf ab ow W f : Nat → Int32) (O : Nat) : Int32 := am_it (pu_aiS kf ab ow (am_hat W (f 1)) (f 2).toNatClampNeg) 0 O
def pu_deM (kf ab ow W : Nat → Int32) (O : Nat) (sr : Nat → Nat) (ln : Nat → Nat → Int32) (i : Nat) (a : Int32) : Int32 := if sr i = 4 then (if ln i 6 = 0 then a else a ||| pu_aiVO kf ab ow W (ln i) O) else a
theorem sp_X12_aimsOf_v (d i : Nat) (hi : i < Lc) (hL40 : Lc ≤ 40) (hs : sr i = 4) (hw : am_wl (sr i) (ln i)) (hRL : am_RL sr ln Lc ν) (hO : ν 19 0 = nI O) (hO16 : O ≤ 16) (hab : am_wab (ν 1)) (kf : Nat → Int32) (hkf : ∀ o, o < O → am_pl 8 (kf o) ∧ ∀ d, am_X xs LL (d + 1) 154 [.ref 47, .int (nI o)] (hG σ sr ln Lc ν) (some (.int (kf o))) (hG σ sr ln Lc ν)) : am_X xs LL (d + 2) 184 [.ref 47, .int (nI i)] (hG σ sr ln Lc ν) (some (.int (pu_aiVO kf (ν 1) (ν 2) (ν 24) (ln i) O))) (hG σ sr ln Lc ν) := by
  obtain ⟨-, h1, hb, -, hn, -⟩ := hw
  obtain ⟨b, hb, e1⟩ := hb (by rw [hs]; decide)
  obtain ⟨n, hn3, e2⟩ := hn (by rw [hs]; decide) (by rw [hs]; decide)
  unfold pu_aiVO
  have k1 := (hRL.2.2.2.1 i hi).trans e1
  have k2 := (hRL.2.2.2.2.1 i hi).trans e2
  rw [e1, e2, am_hat_nI (by omega), nI_clamp (by omega)]
  exact sp_X12_aimsOf d hO hO16 i (by omega) hb k1 hn3 k2 hab kf hkf
theorem sp_X12_dead (d : Nat) (hL40 : Lc ≤ 40) (hsr : ∀ i, i < Lc → sr i < 6) (hwl : ∀ i, i < Lc → am_wl (sr i) (ln i)) (hRL : am_RL sr ln Lc ν) (hO : ν 19 0 = nI O) (hO16 : O ≤ 16) (hab : am_wab (ν 1)) (kf : Nat → Int32) (hkf : ∀ o, o < O → am_pl 8 (kf o) ∧ ∀ d, am_X xs LL (d + 1) 154 [.ref 47, .int (nI o)] (hG σ sr ln Lc ν) (some (.int (kf o))) (hG σ sr ln Lc ν)) (hw : ∀ d, am_X xs LL (d + 6) 173 [.ref 47, .int 0, .int (-1)] (hG σ sr ln Lc μ) none (hG σ sr ln Lc ν)) : am_X xs LL (d + 7) 186 [.ref 47] (hG σ sr ln Lc μ) (some (.int (63 &&& ((am_it (pu_deM kf (ν 1) (ν 2) (ν 24) O sr ln) 0 Lc) ^^^ (-1))))) (hG σ sr ln Lc ν) := by
  refine am_XR (d := d + 6) (C := cd_X12_dead) (L := [some (.ref 47), none, none]) rfl rfl rfl rfl ?_
  refine am_g 3 3 [some (.ref 47), none, none] [.int (-1), .int 0, .ref 47] (hG σ sr ln Lc μ) rfl ?_
  refine am_call (y := 173) (vs := [.ref 47, .int 0, .int (-1)]) (rest := []) (v := none) (h1 := (hG σ sr ln Lc ν)) rfl rfl rfl (hw d) ?_
  refine am_g 4 10 [some (.ref 47), some (.int 0), some (.int 0)] [] (hG σ sr ln Lc ν) rfl ?_
  have lp : ∀ (r i : Nat), i + r = Lc → am_R xs LL cd_X12_dead (am_X xs LL (d + 6)) 10 [some (.ref 47), some (.int (am_it (pu_deM kf (ν 1) (ν 2) (ν 24) O sr ln) 0 i)), some (.int (nI i))] [] (hG σ sr ln Lc ν) (some (.int (63 &&& ((am_it (pu_deM kf (ν 1) (ν 2) (ν 24) O sr ln) 0 Lc) ^^^ (-1))))) (hG σ sr ln Lc ν) := by
    intro r
    induction r with
    | zero =>
      intro i  hi
      have hi2 : i = Lc := by omega
      rw [hi2]
      refine am_g 3 15 [some (.ref 47), some (.int (am_it (pu_deM kf (ν 1) (ν 2) (ν 24) O sr ln) 0 Lc)), some (.int (nI Lc))] [.int (ν 17 0), .int (nI Lc)] (hG σ sr ln Lc ν) rfl ?_
      rw [show (ν 17 0) = (nI Lc) from hRL.1]
      refine am_g 1 (if (nI Lc) ≤ (nI Lc) then 55 else 18) [some (.ref 47), some (.int (am_it (pu_deM kf (ν 1) (ν 2) (ν 24) O sr ln) 0 Lc)), some (.int (nI Lc))] [] (hG σ sr ln Lc ν) rfl ?_
      rw [if_pos (show (nI Lc) ≤ (nI Lc) from (am_dle (a := Lc) (b := Lc) (rfl) (rfl) (by omega) (by omega) (by omega)))]
      refine am_g 5 61 [some (.ref 47), some (.int (am_it (pu_deM kf (ν 1) (ν 2) (ν 24) O sr ln) 0 Lc)), some (.int (nI Lc))] [.int (63 &&& ((am_it (pu_deM kf (ν 1) (ν 2) (ν 24) O sr ln) 0 Lc) ^^^ (-1)))] (hG σ sr ln Lc ν) rfl ?_
      exact am_ret2 rfl rfl rfl rfl rfl
    | succ r ih =>
      intro i  hi
      have hi2 : i < Lc := by omega
      refine am_g 3 15 [some (.ref 47), some (.int (am_it (pu_deM kf (ν 1) (ν 2) (ν 24) O sr ln) 0 i)), some (.int (nI i))] [.int (ν 17 0), .int (nI i)] (hG σ sr ln Lc ν) rfl ?_
      rw [show (ν 17 0) = (nI Lc) from hRL.1]
      refine am_g 1 (if (nI Lc) ≤ (nI i) then 55 else 18) [some (.ref 47), some (.int (am_it (pu_deM kf (ν 1) (ν 2) (ν 24) O sr ln) 0 i)), some (.int (nI i))] [] (hG σ sr ln Lc ν) rfl ?_
      rw [if_neg (show ¬ (nI Lc) ≤ (nI i) from (am_dnle (a := Lc) (b := i) (rfl) (rfl) (by omega) (by omega) (by omega)))]
      refine am_g 4 24 [some (.ref 47), some (.int (am_it (pu_deM kf (ν 1) (ν 2) (ν 24) O sr ln) 0 i)), some (.int (nI i))] [.int (nI i), .ref 60, .int (am_it (pu_deM kf (ν 1) (ν 2) (ν 24) O sr ln) 0 i)] (hG σ sr ln Lc ν) rfl ?_
      refine am_baldV (n := 40) (f := (ν 14)) (k := i) (w := (ln i 6)) rfl rfl (rfl) (by omega) (by decide) (hRL.2.2.2.2.2.2.2.2.1 i hi2) ?_
      refine am_g 1 (if (ln i 6) = 0 then 46 else 28) [some (.ref 47), some (.int (am_it (pu_deM kf (ν 1) (ν 2) (ν 24) O sr ln) 0 i)), some (.int (nI i))] [.int (am_it (pu_deM kf (ν 1) (ν 2) (ν 24) O sr ln) 0 i)] (hG σ sr ln Lc ν) rfl (am_brR (fun c1 => ?_) (fun c1 => ?_))
      · skip
        refine am_g 5 10 [some (.ref 47), some (.int ((am_it (pu_deM kf (ν 1) (ν 2) (ν 24) O sr ln) 0 i) ||| 0)), some (.int ((nI i) + 1))] [] (hG σ sr ln Lc ν) rfl ?_
        have qq : am_it (pu_deM kf (ν 1) (ν 2) (ν 24) O sr ln) 0 (i + 1) = ((am_it (pu_deM kf (ν 1) (ν 2) (ν 24) O sr ln) 0 i) ||| 0) := by
          rw [am_itS]
          by_cases h4 : sr i = 4
          · exact (if_pos h4).trans ((if_pos c1).trans (am_or0 _).symm)
          · exact (if_neg h4).trans (am_or0 _).symm
        rw [nI_up, ← qq]
        exact ih (i + 1) (by omega)
      · skip
        refine am_g 3 33 [some (.ref 47), some (.int (am_it (pu_deM kf (ν 1) (ν 2) (ν 24) O sr ln) 0 i)), some (.int (nI i))] [.int (nI i), .ref 53, .int (am_it (pu_deM kf (ν 1) (ν 2) (ν 24) O sr ln) 0 i)] (hG σ sr ln Lc ν) rfl ?_
        refine am_ialdV (n := 40) (f := (ν 7)) (k := i) (w := (nI (sr i))) rfl rfl (rfl) (by omega) (by decide) (hRL.2.1 i hi2) ?_
        refine am_g 2 (if (nI (sr i)) = 4 then 38 else 46) [some (.ref 47), some (.int (am_it (pu_deM kf (ν 1) (ν 2) (ν 24) O sr ln) 0 i)), some (.int (nI i))] [.int (am_it (pu_deM kf (ν 1) (ν 2) (ν 24) O sr ln) 0 i)] (hG σ sr ln Lc ν) rfl (am_brR (fun c2 => ?_) (fun c2 => ?_))
        · skip
          refine am_g 2 40 [some (.ref 47), some (.int (am_it (pu_deM kf (ν 1) (ν 2) (ν 24) O sr ln) 0 i)), some (.int (nI i))] [.int (nI i), .ref 47, .int (am_it (pu_deM kf (ν 1) (ν 2) (ν 24) O sr ln) 0 i)] (hG σ sr ln Lc ν) rfl ?_
          refine am_call (y := 184) (vs := [.ref 47, .int (nI i)]) (rest := [.int (am_it (pu_deM kf (ν 1) (ν 2) (ν 24) O sr ln) 0 i)]) (v := (some (.int (pu_aiVO kf (ν 1) (ν 2) (ν 24) (ln i) O)))) (h1 := (hG σ sr ln Lc ν)) rfl rfl rfl (sp_X12_aimsOf_v (d + 4) i hi2 hL40 (nI_s4 (hsr i hi2) c2) (hwl i hi2) hRL hO hO16 hab kf hkf) ?_
          refine am_g 5 10 [some (.ref 47), some (.int ((am_it (pu_deM kf (ν 1) (ν 2) (ν 24) O sr ln) 0 i) ||| (pu_aiVO kf (ν 1) (ν 2) (ν 24) (ln i) O))), some (.int ((nI i) + 1))] [] (hG σ sr ln Lc ν) rfl ?_
          have qq : am_it (pu_deM kf (ν 1) (ν 2) (ν 24) O sr ln) 0 (i + 1) = ((am_it (pu_deM kf (ν 1) (ν 2) (ν 24) O sr ln) 0 i) ||| (pu_aiVO kf (ν 1) (ν 2) (ν 24) (ln i) O)) := by
            rw [am_itS]
            exact (if_pos (nI_s4 (hsr i hi2) c2)).trans (if_neg c1)
          rw [nI_up, ← qq]
          exact ih (i + 1) (by omega)
        · skip
          refine am_g 5 10 [some (.ref 47), some (.int ((am_it (pu_deM kf (ν 1) (ν 2) (ν 24) O sr ln) 0 i) ||| 0)), some (.int ((nI i) + 1))] [] (hG σ sr ln Lc ν) rfl ?_
          have qq : am_it (pu_deM kf (ν 1) (ν 2) (ν 24) O sr ln) 0 (i + 1) = ((am_it (pu_deM kf (ν 1) (ν 2) (ν 24) O sr ln) 0 i) ||| 0) := by
            rw [am_itS]
            exact (if_neg (fun q => c2 (by rw [q]; rfl))).trans (am_or0 _).symm
          rw [nI_up, ← qq]
          exact ih (i + 1) (by omega)
  exact lp Lc 0 (by omega)
theorem sp_X12_way_ok (d : Nat) (hwf : am_WF σ sr ln Lc) (hRK : am_RK σ μ) (hRL : am_RL sr ln Lc μ) (hRO : am_RO σ sr ln Lc O μ) (o n : Nat) (ho : o < O) (hn : n < 20) (R : Nat) (hrun : ∀ r, r < R → ¬ (pu_Y σ sr ln Lc false (-1) (μ 24) (μ 25) r).1 = 0 ∧ am_hb ((pu_Y σ sr ln Lc false (-1) (μ 24) (μ 25) r).2.1 n) o = false) (hend : (pu_Y σ sr ln Lc false (-1) (μ 24) (μ 25) R).1 = 0 ∨ am_hb ((pu_Y σ sr ln Lc false (-1) (μ 24) (μ 25) R).2.1 n) o = true) (hok : ∀ r, r < R → am_okM (am_bM false O) (pu_Y σ sr ln Lc false (-1) (μ 24) (μ 25) r).2.1) : am_X xs LL (d + 6) 177 [.ref 47, .int (nI o), .int (nI n)] (hG σ sr ln Lc μ) (some (.int (bif am_hb ((pu_Y σ sr ln Lc false (-1) (μ 24) (μ 25) R).2.1 n) o then nI R else -1))) (hG σ sr ln Lc (am_up (am_up (am_us (am_us (am_us μ 27 0) 28 (-1)) 26 0) 24 (pu_Y σ sr ln Lc false (-1) (μ 24) (μ 25) R).2.1) 25 (pu_Y σ sr ln Lc false (-1) (μ 24) (μ 25) R).2.2)) := by
  refine am_XR (d := d + 5) (C := cd_X12_way) (L := [some (.ref 47), some (.int (nI o)), some (.int (nI n)), none, none]) rfl rfl rfl rfl ?_
  have hO16 : O ≤ 16 := hRO.1
  refine am_g 2 2 [some (.ref 47), some (.int (nI o)), some (.int (nI n)), none, none] [.int (nI o), .ref 47] (hG σ sr ln Lc μ) rfl ?_
  refine am_call (y := 153) (vs := [.ref 47, .int (nI o)]) (rest := []) (v := (some (.int 1))) (h1 := (hG σ sr ln Lc μ)) rfl rfl rfl (sp_X12_isObject (σ := σ) (μ := μ) (d + 3) _ hRO.2.2.1 (by have := hRO.1; omega) (am_in_of_nI ho (by omega))) ?_
  refine am_g 2 9 [some (.ref 47), some (.int (nI o)), some (.int (nI n)), none, none] [.int (nI n)] (hG σ sr ln Lc μ) rfl ?_
  refine am_call (y := 143) (vs := [.int (nI n)]) (rest := []) (v := (some (.int 1))) (h1 := (hG σ sr ln Lc μ)) rfl rfl rfl (sp_X12_isName (d + 3) _ _ (am_in_of_nI hn (by omega))) ?_
  refine am_g 4 21 [some (.ref 47), some (.int (nI o)), some (.int (nI n)), none, none] [.int (-1), .int 0, .ref 47] (hG σ sr ln Lc μ) rfl ?_
  refine am_call (y := 172) (vs := [.ref 47, .int 0, .int (-1)]) (rest := []) (v := none) (h1 := (hG σ sr ln Lc (am_up (am_us (am_us (am_us μ 27 0) 28 (-1)) 26 0) 24 (am_fill (fun _ => 0) (μ 24) 68 0)))) rfl rfl rfl (sp_X12_begin_0 (σ := σ) (μ := μ) (d + 4) (-1)) ?_
  refine am_g 4 29 [some (.ref 47), some (.int (nI o)), some (.int (nI n)), some (.int 0), some (.int 1)] [] (hG σ sr ln Lc (am_up (am_us (am_us (am_us μ 27 0) 28 (-1)) 26 0) 24 (am_fill (fun _ => 0) (μ 24) 68 0))) rfl ?_
  have lpo : ∀ (q r : Nat), r + q = R → am_R xs LL cd_X12_way (am_X xs LL (d + 5)) 29 [some (.ref 47), some (.int (nI o)), some (.int (nI n)), some (.int (nI r)), some (.int (pu_Y σ sr ln Lc false (-1) (μ 24) (μ 25) r).1)] [] (hG σ sr ln Lc (am_up (am_up (am_us (am_us (am_us μ 27 0) 28 (-1)) 26 0) 24 (pu_Y σ sr ln Lc false (-1) (μ 24) (μ 25) r).2.1) 25 (pu_Y σ sr ln Lc false (-1) (μ 24) (μ 25) r).2.2)) (some (.int (bif am_hb ((pu_Y σ sr ln Lc false (-1) (μ 24) (μ 25) R).2.1 n) o then nI R else -1))) (hG σ sr ln Lc (am_up (am_up (am_us (am_us (am_us μ 27 0) 28 (-1)) 26 0) 24 (pu_Y σ sr ln Lc false (-1) (μ 24) (μ 25) R).2.1) 25 (pu_Y σ sr ln Lc false (-1) (μ 24) (μ 25) R).2.2)) := by
    intro q
    induction q with
    | zero =>
      intro r hr
      have hr2 : r = R := by omega
      rw [hr2]
      cases hb : am_hb ((pu_Y σ sr ln Lc false (-1) (μ 24) (μ 25) R).2.1 n) o with
      | false =>
        refine am_g 2 (if (pu_Y σ sr ln Lc false (-1) (μ 24) (μ 25) R).1 = 0 then 59 else 34) [some (.ref 47), some (.int (nI o)), some (.int (nI n)), some (.int (nI R)), some (.int (pu_Y σ sr ln Lc false (-1) (μ 24) (μ 25) R).1)] [] (hG σ sr ln Lc (am_up (am_up (am_us (am_us (am_us μ 27 0) 28 (-1)) 26 0) 24 (pu_Y σ sr ln Lc false (-1) (μ 24) (μ 25) R).2.1) 25 (pu_Y σ sr ln Lc false (-1) (μ 24) (μ 25) R).2.2)) rfl ?_
        rw [if_pos (show (pu_Y σ sr ln Lc false (-1) (μ 24) (μ 25) R).1 = 0 from (hend.resolve_right (by rw [hb]; decide)))]
        refine am_g 3 64 [some (.ref 47), some (.int (nI o)), some (.int (nI n)), some (.int (nI R)), some (.int (pu_Y σ sr ln Lc false (-1) (μ 24) (μ 25) R).1)] [.int (nI n), .ref 65] (hG σ sr ln Lc (am_up (am_up (am_us (am_us (am_us μ 27 0) 28 (-1)) 26 0) 24 (pu_Y σ sr ln Lc false (-1) (μ 24) (μ 25) R).2.1) 25 (pu_Y σ sr ln Lc false (-1) (μ 24) (μ 25) R).2.2)) rfl ?_
        refine am_ialdR (n := 68) (f := (pu_Y σ sr ln Lc false (-1) (μ 24) (μ 25) R).2.1) (k := n) rfl rfl (rfl) (by omega) (by decide) ?_
        refine am_g 6 (if ((((pu_Y σ sr ln Lc false (-1) (μ 24) (μ 25) R).2.1 n) >>> ((nI o) &&& 31)) &&& 1) = 1 then 73 else 77) [some (.ref 47), some (.int (nI o)), some (.int (nI n)), some (.int (nI R)), some (.int (pu_Y σ sr ln Lc false (-1) (μ 24) (μ 25) R).1)] [] (hG σ sr ln Lc (am_up (am_up (am_us (am_us (am_us μ 27 0) 28 (-1)) 26 0) 24 (pu_Y σ sr ln Lc false (-1) (μ 24) (μ 25) R).2.1) 25 (pu_Y σ sr ln Lc false (-1) (μ 24) (μ 25) R).2.2)) rfl ?_
        rw [if_neg (show ¬ ((((pu_Y σ sr ln Lc false (-1) (μ 24) (μ 25) R).2.1 n) >>> ((nI o) &&& 31)) &&& 1) = 1 from (of_decide_eq_false hb))]
        refine am_g 1 78 [some (.ref 47), some (.int (nI o)), some (.int (nI n)), some (.int (nI R)), some (.int (pu_Y σ sr ln Lc false (-1) (μ 24) (μ 25) R).1)] [.int (-1)] (hG σ sr ln Lc (am_up (am_up (am_us (am_us (am_us μ 27 0) 28 (-1)) 26 0) 24 (pu_Y σ sr ln Lc false (-1) (μ 24) (μ 25) R).2.1) 25 (pu_Y σ sr ln Lc false (-1) (μ 24) (μ 25) R).2.2)) rfl ?_
        exact am_ret2 rfl rfl rfl rfl rfl
      | true =>
        refine am_g 2 (if (pu_Y σ sr ln Lc false (-1) (μ 24) (μ 25) R).1 = 0 then 59 else 34) [some (.ref 47), some (.int (nI o)), some (.int (nI n)), some (.int (nI R)), some (.int (pu_Y σ sr ln Lc false (-1) (μ 24) (μ 25) R).1)] [] (hG σ sr ln Lc (am_up (am_up (am_us (am_us (am_us μ 27 0) 28 (-1)) 26 0) 24 (pu_Y σ sr ln Lc false (-1) (μ 24) (μ 25) R).2.1) 25 (pu_Y σ sr ln Lc false (-1) (μ 24) (μ 25) R).2.2)) rfl (am_brR (fun c1 => ?_) (fun c1 => ?_))
        · skip
          refine am_g 3 64 [some (.ref 47), some (.int (nI o)), some (.int (nI n)), some (.int (nI R)), some (.int (pu_Y σ sr ln Lc false (-1) (μ 24) (μ 25) R).1)] [.int (nI n), .ref 65] (hG σ sr ln Lc (am_up (am_up (am_us (am_us (am_us μ 27 0) 28 (-1)) 26 0) 24 (pu_Y σ sr ln Lc false (-1) (μ 24) (μ 25) R).2.1) 25 (pu_Y σ sr ln Lc false (-1) (μ 24) (μ 25) R).2.2)) rfl ?_
          refine am_ialdR (n := 68) (f := (pu_Y σ sr ln Lc false (-1) (μ 24) (μ 25) R).2.1) (k := n) rfl rfl (rfl) (by omega) (by decide) ?_
          refine am_g 6 (if ((((pu_Y σ sr ln Lc false (-1) (μ 24) (μ 25) R).2.1 n) >>> ((nI o) &&& 31)) &&& 1) = 1 then 73 else 77) [some (.ref 47), some (.int (nI o)), some (.int (nI n)), some (.int (nI R)), some (.int (pu_Y σ sr ln Lc false (-1) (μ 24) (μ 25) R).1)] [] (hG σ sr ln Lc (am_up (am_up (am_us (am_us (am_us μ 27 0) 28 (-1)) 26 0) 24 (pu_Y σ sr ln Lc false (-1) (μ 24) (μ 25) R).2.1) 25 (pu_Y σ sr ln Lc false (-1) (μ 24) (μ 25) R).2.2)) rfl ?_
          rw [if_pos (show ((((pu_Y σ sr ln Lc false (-1) (μ 24) (μ 25) R).2.1 n) >>> ((nI o) &&& 31)) &&& 1) = 1 from (of_decide_eq_true hb))]
          refine am_g 2 78 [some (.ref 47), some (.int (nI o)), some (.int (nI n)), some (.int (nI R)), some (.int (pu_Y σ sr ln Lc false (-1) (μ 24) (μ 25) R).1)] [.int (nI R)] (hG σ sr ln Lc (am_up (am_up (am_us (am_us (am_us μ 27 0) 28 (-1)) 26 0) 24 (pu_Y σ sr ln Lc false (-1) (μ 24) (μ 25) R).2.1) 25 (pu_Y σ sr ln Lc false (-1) (μ 24) (μ 25) R).2.2)) rfl ?_
          exact am_ret2 rfl rfl rfl rfl rfl
        · skip
          refine am_g 3 39 [some (.ref 47), some (.int (nI o)), some (.int (nI n)), some (.int (nI R)), some (.int (pu_Y σ sr ln Lc false (-1) (μ 24) (μ 25) R).1)] [.int (nI n), .ref 65] (hG σ sr ln Lc (am_up (am_up (am_us (am_us (am_us μ 27 0) 28 (-1)) 26 0) 24 (pu_Y σ sr ln Lc false (-1) (μ 24) (μ 25) R).2.1) 25 (pu_Y σ sr ln Lc false (-1) (μ 24) (μ 25) R).2.2)) rfl ?_
          refine am_ialdR (n := 68) (f := (pu_Y σ sr ln Lc false (-1) (μ 24) (μ 25) R).2.1) (k := n) rfl rfl (rfl) (by omega) (by decide) ?_
          refine am_g 5 (if ((((pu_Y σ sr ln Lc false (-1) (μ 24) (μ 25) R).2.1 n) >>> ((nI o) &&& 31)) &&& 1) = 0 then 47 else 59) [some (.ref 47), some (.int (nI o)), some (.int (nI n)), some (.int (nI R)), some (.int (pu_Y σ sr ln Lc false (-1) (μ 24) (μ 25) R).1)] [] (hG σ sr ln Lc (am_up (am_up (am_us (am_us (am_us μ 27 0) 28 (-1)) 26 0) 24 (pu_Y σ sr ln Lc false (-1) (μ 24) (μ 25) R).2.1) 25 (pu_Y σ sr ln Lc false (-1) (μ 24) (μ 25) R).2.2)) rfl ?_
          rw [if_neg (show ¬ ((((pu_Y σ sr ln Lc false (-1) (μ 24) (μ 25) R).2.1 n) >>> ((nI o) &&& 31)) &&& 1) = 0 from (pu_hbT hb))]
          refine am_g 3 64 [some (.ref 47), some (.int (nI o)), some (.int (nI n)), some (.int (nI R)), some (.int (pu_Y σ sr ln Lc false (-1) (μ 24) (μ 25) R).1)] [.int (nI n), .ref 65] (hG σ sr ln Lc (am_up (am_up (am_us (am_us (am_us μ 27 0) 28 (-1)) 26 0) 24 (pu_Y σ sr ln Lc false (-1) (μ 24) (μ 25) R).2.1) 25 (pu_Y σ sr ln Lc false (-1) (μ 24) (μ 25) R).2.2)) rfl ?_
          refine am_ialdR (n := 68) (f := (pu_Y σ sr ln Lc false (-1) (μ 24) (μ 25) R).2.1) (k := n) rfl rfl (rfl) (by omega) (by decide) ?_
          refine am_g 6 (if ((((pu_Y σ sr ln Lc false (-1) (μ 24) (μ 25) R).2.1 n) >>> ((nI o) &&& 31)) &&& 1) = 1 then 73 else 77) [some (.ref 47), some (.int (nI o)), some (.int (nI n)), some (.int (nI R)), some (.int (pu_Y σ sr ln Lc false (-1) (μ 24) (μ 25) R).1)] [] (hG σ sr ln Lc (am_up (am_up (am_us (am_us (am_us μ 27 0) 28 (-1)) 26 0) 24 (pu_Y σ sr ln Lc false (-1) (μ 24) (μ 25) R).2.1) 25 (pu_Y σ sr ln Lc false (-1) (μ 24) (μ 25) R).2.2)) rfl ?_
          rw [if_pos (show ((((pu_Y σ sr ln Lc false (-1) (μ 24) (μ 25) R).2.1 n) >>> ((nI o) &&& 31)) &&& 1) = 1 from (of_decide_eq_true hb))]
          refine am_g 2 78 [some (.ref 47), some (.int (nI o)), some (.int (nI n)), some (.int (nI R)), some (.int (pu_Y σ sr ln Lc false (-1) (μ 24) (μ 25) R).1)] [.int (nI R)] (hG σ sr ln Lc (am_up (am_up (am_us (am_us (am_us μ 27 0) 28 (-1)) 26 0) 24 (pu_Y σ sr ln Lc false (-1) (μ 24) (μ 25) R).2.1) 25 (pu_Y σ sr ln Lc false (-1) (μ 24) (μ 25) R).2.2)) rfl ?_
          exact am_ret2 rfl rfl rfl rfl rfl
    | succ q iho =>
      intro r hr
      have hr2 : r < R := by omega
      refine am_g 2 (if (pu_Y σ sr ln Lc false (-1) (μ 24) (μ 25) r).1 = 0 then 59 else 34) [some (.ref 47), some (.int (nI o)), some (.int (nI n)), some (.int (nI r)), some (.int (pu_Y σ sr ln Lc false (-1) (μ 24) (μ 25) r).1)] [] (hG σ sr ln Lc (am_up (am_up (am_us (am_us (am_us μ 27 0) 28 (-1)) 26 0) 24 (pu_Y σ sr ln Lc false (-1) (μ 24) (μ 25) r).2.1) 25 (pu_Y σ sr ln Lc false (-1) (μ 24) (μ 25) r).2.2)) rfl ?_
      rw [if_neg (show ¬ (pu_Y σ sr ln Lc false (-1) (μ 24) (μ 25) r).1 = 0 from (hrun r hr2).1)]
      refine am_g 3 39 [some (.ref 47), some (.int (nI o)), some (.int (nI n)), some (.int (nI r)), some (.int (pu_Y σ sr ln Lc false (-1) (μ 24) (μ 25) r).1)] [.int (nI n), .ref 65] (hG σ sr ln Lc (am_up (am_up (am_us (am_us (am_us μ 27 0) 28 (-1)) 26 0) 24 (pu_Y σ sr ln Lc false (-1) (μ 24) (μ 25) r).2.1) 25 (pu_Y σ sr ln Lc false (-1) (μ 24) (μ 25) r).2.2)) rfl ?_
      refine am_ialdR (n := 68) (f := (pu_Y σ sr ln Lc false (-1) (μ 24) (μ 25) r).2.1) (k := n) rfl rfl (rfl) (by omega) (by decide) ?_
      refine am_g 5 (if ((((pu_Y σ sr ln Lc false (-1) (μ 24) (μ 25) r).2.1 n) >>> ((nI o) &&& 31)) &&& 1) = 0 then 47 else 59) [some (.ref 47), some (.int (nI o)), some (.int (nI n)), some (.int (nI r)), some (.int (pu_Y σ sr ln Lc false (-1) (μ 24) (μ 25) r).1)] [] (hG σ sr ln Lc (am_up (am_up (am_us (am_us (am_us μ 27 0) 28 (-1)) 26 0) 24 (pu_Y σ sr ln Lc false (-1) (μ 24) (μ 25) r).2.1) 25 (pu_Y σ sr ln Lc false (-1) (μ 24) (μ 25) r).2.2)) rfl ?_
      rw [if_pos (show ((((pu_Y σ sr ln Lc false (-1) (μ 24) (μ 25) r).2.1 n) >>> ((nI o) &&& 31)) &&& 1) = 0 from (pu_hbF (hrun r hr2).2))]
      refine am_g 1 48 [some (.ref 47), some (.int (nI o)), some (.int (nI n)), some (.int (nI r)), some (.int (pu_Y σ sr ln Lc false (-1) (μ 24) (μ 25) r).1)] [.ref 47] (hG σ sr ln Lc (am_up (am_up (am_us (am_us (am_us μ 27 0) 28 (-1)) 26 0) 24 (pu_Y σ sr ln Lc false (-1) (μ 24) (μ 25) r).2.1) 25 (pu_Y σ sr ln Lc false (-1) (μ 24) (μ 25) r).2.2)) rfl ?_
      refine am_call (y := 171) (vs := [.ref 47]) (rest := []) (v := (some (.int (am_it (pu_adS (pu_nx σ sr ln Lc false (-1) (pu_Y σ sr ln Lc false (-1) (μ 24) (μ 25) r).2.1 (pu_Y σ sr ln Lc false (-1) (μ 24) (μ 25) r).2.2)) (0, (pu_Y σ sr ln Lc false (-1) (μ 24) (μ 25) r).2.1) 68).1))) (h1 := (hG σ sr ln Lc (am_up (am_up (am_us (am_us (am_us μ 27 0) 28 (-1)) 26 0) 25 (pu_nx σ sr ln Lc false (-1) (pu_Y σ sr ln Lc false (-1) (μ 24) (μ 25) r).2.1 (pu_Y σ sr ln Lc false (-1) (μ 24) (μ 25) r).2.2)) 24 (am_it (pu_adS (pu_nx σ sr ln Lc false (-1) (pu_Y σ sr ln Lc false (-1) (μ 24) (μ 25) r).2.1 (pu_Y σ sr ln Lc false (-1) (μ 24) (μ 25) r).2.2)) (0, (pu_Y σ sr ln Lc false (-1) (μ 24) (μ 25) r).2.1) 68).2))) rfl rfl rfl (sp_X12_round (σ := σ) (μ := (am_up (am_up (am_us (am_us (am_us μ 27 0) 28 (-1)) 26 0) 24 (pu_Y σ sr ln Lc false (-1) (μ 24) (μ 25) r).2.1) 25 (pu_Y σ sr ln Lc false (-1) (μ 24) (μ 25) r).2.2)) (bk := false) d hwf hRK hRL hRO rfl (-1) rfl (hok r (by omega))) ?_
      refine am_g 3 29 [some (.ref 47), some (.int (nI o)), some (.int (nI n)), some (.int ((nI r) + 1)), some (.int (am_it (pu_adS (pu_nx σ sr ln Lc false (-1) (pu_Y σ sr ln Lc false (-1) (μ 24) (μ 25) r).2.1 (pu_Y σ sr ln Lc false (-1) (μ 24) (μ 25) r).2.2)) (0, (pu_Y σ sr ln Lc false (-1) (μ 24) (μ 25) r).2.1) 68).1)] [] (hG σ sr ln Lc (am_up (am_up (am_us (am_us (am_us μ 27 0) 28 (-1)) 26 0) 25 (pu_nx σ sr ln Lc false (-1) (pu_Y σ sr ln Lc false (-1) (μ 24) (μ 25) r).2.1 (pu_Y σ sr ln Lc false (-1) (μ 24) (μ 25) r).2.2)) 24 (am_it (pu_adS (pu_nx σ sr ln Lc false (-1) (pu_Y σ sr ln Lc false (-1) (μ 24) (μ 25) r).2.1 (pu_Y σ sr ln Lc false (-1) (μ 24) (μ 25) r).2.2)) (0, (pu_Y σ sr ln Lc false (-1) (μ 24) (μ 25) r).2.1) 68).2)) rfl ?_
      have e := iho (r + 1) (by omega)
      rw [pu_Y_S σ sr ln Lc false (-1) (μ 24) (μ 25) r] at e
      dsimp only [pu_YS] at e
      rw [nI_up]
      exact e
  exact lpo R 0 (by omega)
theorem sp_X12_way_bad1 (d : Nat) (hO : μ 19 0 = nI O) (hO16 : O ≤ 16) (o n : Int32) (hb : am_in o O = false) : am_X xs LL (d + 3) 177 [.ref 47, .int o, .int n] (hG σ sr ln Lc μ) (some (.int (-2))) (hG σ sr ln Lc μ) := by
  refine am_XR (d := d + 2) (C := cd_X12_way) (L := [some (.ref 47), some (.int o), some (.int n), none, none]) rfl rfl rfl rfl ?_
  refine am_g 2 2 [some (.ref 47), some (.int o), some (.int n), none, none] [.int o, .ref 47] (hG σ sr ln Lc μ) rfl ?_
  refine am_call (y := 153) (vs := [.ref 47, .int o]) (rest := []) (v := (some (.int 0))) (h1 := (hG σ sr ln Lc μ)) rfl rfl rfl (sp_X12_isObject (σ := σ) (μ := μ) d _ hO (by omega) hb) ?_
  refine am_g 2 17 [some (.ref 47), some (.int o), some (.int n), none, none] [.int (-2)] (hG σ sr ln Lc μ) rfl ?_
  exact am_ret2 rfl rfl rfl rfl rfl
theorem sp_X12_way_bad2 (d : Nat) (hO : μ 19 0 = nI O) (hO16 : O ≤ 16) (o : Nat) (n : Int32) (ho : o < O) (hb : am_in n 20 = false) : am_X xs LL (d + 3) 177 [.ref 47, .int (nI o), .int n] (hG σ sr ln Lc μ) (some (.int (-2))) (hG σ sr ln Lc μ) := by
  refine am_XR (d := d + 2) (C := cd_X12_way) (L := [some (.ref 47), some (.int (nI o)), some (.int n), none, none]) rfl rfl rfl rfl ?_
  refine am_g 2 2 [some (.ref 47), some (.int (nI o)), some (.int n), none, none] [.int (nI o), .ref 47] (hG σ sr ln Lc μ) rfl ?_
  refine am_call (y := 153) (vs := [.ref 47, .int (nI o)]) (rest := []) (v := (some (.int 1))) (h1 := (hG σ sr ln Lc μ)) rfl rfl rfl (sp_X12_isObject (σ := σ) (μ := μ) d _ hO (by omega) (am_in_of_nI ho (by omega))) ?_
  refine am_g 2 9 [some (.ref 47), some (.int (nI o)), some (.int n), none, none] [.int n] (hG σ sr ln Lc μ) rfl ?_
  refine am_call (y := 143) (vs := [.int n]) (rest := []) (v := (some (.int 0))) (h1 := (hG σ sr ln Lc μ)) rfl rfl rfl (sp_X12_isName d _ _ hb) ?_
  refine am_g 2 17 [some (.ref 47), some (.int (nI o)), some (.int n), none, none] [.int (-2)] (hG σ sr ln Lc μ) rfl ?_
  exact am_ret2 rfl rfl rfl rfl rfl
end MH
