section MB
variable {xs : Nat → Int32} {LL : Nat} {σ μ : Nat → Nat → Int32} {sr : Nat → Nat} {ln : Nat → Nat → Int32} {Lc : Nat}
theorem sp_X12_in (d : Nat) (v a c : Int64) (h : am_H) : am_X xs LL (d + 1) 140 [.long v, .long a, .long c] h (some (.int (am_b2 (decide (a ≤ v ∧ v ≤ c))))) h := by
  refine am_XR (d := d + 0) (C := cd_X12_in) (L := [some (.long v), none, some (.long a), none, some (.long c), none]) rfl rfl rfl rfl ?_
  refine am_g 4 (if (lg_cmp v a) < 0 then 17 else 6) [some (.long v), none, some (.long a), none, some (.long c), none] [] h rfl (am_brR (fun c1 => ?_) (fun c1 => ?_))
  · skip
    refine am_g 1 18 [some (.long v), none, some (.long a), none, some (.long c), none] [.int 0] h rfl ?_
    exact am_ret2 rfl rfl rfl (am_b2f (fun q => am_lcm.mp c1 q.1)) rfl
  · skip
    refine am_g 4 (if 0 < (lg_cmp v c) then 17 else 13) [some (.long v), none, some (.long a), none, some (.long c), none] [] h rfl (am_brR (fun c2 => ?_) (fun c2 => ?_))
    · skip
      refine am_g 1 18 [some (.long v), none, some (.long a), none, some (.long c), none] [.int 0] h rfl ?_
      exact am_ret2 rfl rfl rfl (am_b2f (fun q => am_lcg.mp c2 q.2)) rfl
    · skip
      refine am_g 2 18 [some (.long v), none, some (.long a), none, some (.long c), none] [.int 1] h rfl ?_
      exact am_ret2 rfl rfl rfl (am_b2t ⟨Decidable.not_not.mp (fun q => c1 (am_lcm.mpr q)), Decidable.not_not.mp (fun q => c2 (am_lcg.mpr q))⟩) rfl
theorem sp_X11_isWithin (d : Nat) (v a c : Int32) (h : am_H) : am_X xs LL (d + 1) 122 [.int v, .int a, .int c] h (some (.int (am_b2 (decide (a ≤ v ∧ v ≤ c))))) h := by
  refine am_XR (d := d + 0) (C := cd_X11_isWithin) (L := [some (.int v), some (.int a), some (.int c)]) rfl rfl rfl rfl ?_
  refine am_g 3 (if v < a then 14 else 5) [some (.int v), some (.int a), some (.int c)] [] h rfl (am_brR (fun c1 => ?_) (fun c1 => ?_))
  · skip
    refine am_g 1 15 [some (.int v), some (.int a), some (.int c)] [.int 0] h rfl ?_
    exact am_ret2 rfl rfl rfl (am_b2f (fun q => absurd c1 (Int32.not_lt.mpr q.1))) rfl
  · skip
    refine am_g 3 (if c < v then 14 else 10) [some (.int v), some (.int a), some (.int c)] [] h rfl (am_brR (fun c2 => ?_) (fun c2 => ?_))
    · skip
      refine am_g 1 15 [some (.int v), some (.int a), some (.int c)] [.int 0] h rfl ?_
      exact am_ret2 rfl rfl rfl (am_b2f (fun q => absurd c2 (Int32.not_lt.mpr q.2))) rfl
    · skip
      refine am_g 2 15 [some (.int v), some (.int a), some (.int c)] [.int 1] h rfl ?_
      exact am_ret2 rfl rfl rfl (am_b2t ⟨Int32.not_lt.mp c1, Int32.not_lt.mp c2⟩) rfl
theorem sp_X12_in_b (d : Nat) (v a c : Int64) (h : am_H) {b : Bool} (e : decide (a ≤ v ∧ v ≤ c) = b) : am_X xs LL (d + 1) 140 [.long v, .long a, .long c] h (some (.int (am_b2 b))) h := e ▸ sp_X12_in d v a c h
theorem sp_X11_isWithin_b (d : Nat) (v a c : Int32) (h : am_H) {b : Bool} (e : decide (a ≤ v ∧ v ≤ c) = b) : am_X xs LL (d + 1) 122 [.int v, .int a, .int c] h (some (.int (am_b2 b))) h := e ▸ sp_X11_isWithin d v a c h
theorem sp_X12_isName (d : Nat) (n : Int32) (h : am_H) {b : Bool} (eb : am_in n 20 = b) : am_X xs LL (d + 2) 143 [.int n] h (some (.int (am_b2 b))) h := by
  refine am_XR (d := d + 1) (C := cd_X12_isName) (L := [some (.int n)]) rfl rfl rfl rfl ?_
  rw [← am_in64c (c := 19) (by decide)] at eb
  cases b with
  | false =>
    refine am_g 4 6 [some (.int n)] [.long 19, .long 0, .long (n.toInt64)] h rfl ?_
    refine am_call (y := 140) (vs := [.long (n.toInt64), .long 0, .long 19]) (rest := []) (v := (some (.int 0))) (h1 := h) rfl rfl rfl (sp_X12_in_b d _ _ _ _ eb) ?_
    exact am_ret2 rfl rfl rfl rfl rfl
  | true =>
    refine am_g 4 6 [some (.int n)] [.long 19, .long 0, .long (n.toInt64)] h rfl ?_
    refine am_call (y := 140) (vs := [.long (n.toInt64), .long 0, .long 19]) (rest := []) (v := (some (.int 1))) (h1 := h) rfl rfl rfl (sp_X12_in_b d _ _ _ _ eb) ?_
    exact am_ret2 rfl rfl rfl rfl rfl
theorem sp_X12_isAct (d : Nat) (n : Int32) (h : am_H) {b : Bool} (eb : am_in n 3 = b) : am_X xs LL (d + 2) 144 [.int n] h (some (.int (am_b2 b))) h := by
  refine am_XR (d := d + 1) (C := cd_X12_isAct) (L := [some (.int n)]) rfl rfl rfl rfl ?_
  rw [← am_in64c (c := 2) (by decide)] at eb
  cases b with
  | false =>
    refine am_g 4 6 [some (.int n)] [.long 2, .long 0, .long (n.toInt64)] h rfl ?_
    refine am_call (y := 140) (vs := [.long (n.toInt64), .long 0, .long 2]) (rest := []) (v := (some (.int 0))) (h1 := h) rfl rfl rfl (sp_X12_in_b d _ _ _ _ eb) ?_
    exact am_ret2 rfl rfl rfl rfl rfl
  | true =>
    refine am_g 4 6 [some (.int n)] [.long 2, .long 0, .long (n.toInt64)] h rfl ?_
    refine am_call (y := 140) (vs := [.long (n.toInt64), .long 0, .long 2]) (rest := []) (v := (some (.int 1))) (h1 := h) rfl rfl rfl (sp_X12_in_b d _ _ _ _ eb) ?_
    exact am_ret2 rfl rfl rfl rfl rfl
theorem sp_X12_isSheet (d : Nat) (n : Int32) (h : am_H) {b : Bool} (eb : am_in n 4 = b) : am_X xs LL (d + 2) 202 [.int n] h (some (.int (am_b2 b))) h := by
  refine am_XR (d := d + 1) (C := cd_X12_isSheet) (L := [some (.int n)]) rfl rfl rfl rfl ?_
  rw [← am_in64c (c := 3) (by decide)] at eb
  cases b with
  | false =>
    refine am_g 4 6 [some (.int n)] [.long 3, .long 0, .long (n.toInt64)] h rfl ?_
    refine am_call (y := 140) (vs := [.long (n.toInt64), .long 0, .long 3]) (rest := []) (v := (some (.int 0))) (h1 := h) rfl rfl rfl (sp_X12_in_b d _ _ _ _ eb) ?_
    exact am_ret2 rfl rfl rfl rfl rfl
  | true =>
    refine am_g 4 6 [some (.int n)] [.long 3, .long 0, .long (n.toInt64)] h rfl ?_
    refine am_call (y := 140) (vs := [.long (n.toInt64), .long 0, .long 3]) (rest := []) (v := (some (.int 1))) (h1 := h) rfl rfl rfl (sp_X12_in_b d _ _ _ _ eb) ?_
    exact am_ret2 rfl rfl rfl rfl rfl
theorem sp_X11_isName (d : Nat) (n : Int32) (h : am_H) {b : Bool} (eb : am_in n 20 = b) : am_X xs LL (d + 2) 123 [.int n] h (some (.int (am_b2 b))) h := by
  refine am_XR (d := d + 1) (C := cd_X11_isName) (L := [some (.int n)]) rfl rfl rfl rfl ?_
  rw [← am_wi (c := 19) (by decide)] at eb
  cases b with
  | false =>
    refine am_g 3 4 [some (.int n)] [.int 19, .int 0, .int n] h rfl ?_
    refine am_call (y := 122) (vs := [.int n, .int 0, .int 19]) (rest := []) (v := (some (.int 0))) (h1 := h) rfl rfl rfl (sp_X11_isWithin_b d _ _ _ _ eb) ?_
    exact am_ret2 rfl rfl rfl rfl rfl
  | true =>
    refine am_g 3 4 [some (.int n)] [.int 19, .int 0, .int n] h rfl ?_
    refine am_call (y := 122) (vs := [.int n, .int 0, .int 19]) (rest := []) (v := (some (.int 1))) (h1 := h) rfl rfl rfl (sp_X11_isWithin_b d _ _ _ _ eb) ?_
    exact am_ret2 rfl rfl rfl rfl rfl
theorem sp_X11_isNameOrNone (d : Nat) (n : Int32) (h : am_H) {b : Bool} (eb : am_in1 n 20 = b) : am_X xs LL (d + 2) 124 [.int n] h (some (.int (am_b2 b))) h := by
  refine am_XR (d := d + 1) (C := cd_X11_isNameOrNone) (L := [some (.int n)]) rfl rfl rfl rfl ?_
  rw [← am_wi1 (c := 19) (by decide)] at eb
  cases b with
  | false =>
    refine am_g 3 4 [some (.int n)] [.int 19, .int (-1), .int n] h rfl ?_
    refine am_call (y := 122) (vs := [.int n, .int (-1), .int 19]) (rest := []) (v := (some (.int 0))) (h1 := h) rfl rfl rfl (sp_X11_isWithin_b d _ _ _ _ eb) ?_
    exact am_ret2 rfl rfl rfl rfl rfl
  | true =>
    refine am_g 3 4 [some (.int n)] [.int 19, .int (-1), .int n] h rfl ?_
    refine am_call (y := 122) (vs := [.int n, .int (-1), .int 19]) (rest := []) (v := (some (.int 1))) (h1 := h) rfl rfl rfl (sp_X11_isWithin_b d _ _ _ _ eb) ?_
    exact am_ret2 rfl rfl rfl rfl rfl
theorem sp_X12_isKind (d : Nat) (n : Int32) {q : Nat} (hq : μ 3 0 = nI q) (hq2 : q < 2 ^ 31) {b : Bool} (eb : am_in n q = b) : am_X xs LL (d + 2) 142 [.ref 47, .int n] (hG σ sr ln Lc μ) (some (.int (am_b2 b))) (hG σ sr ln Lc μ) := by
  refine am_XR (d := d + 1) (C := cd_X12_isKind) (L := [some (.ref 47), some (.int n)]) rfl rfl rfl rfl ?_
  rw [← am_in64 hq2, ← hq] at eb
  cases b with
  | false =>
    refine am_g 8 10 [some (.ref 47), some (.int n)] [.long (((μ 3 0) - 1).toInt64), .long 0, .long (n.toInt64)] (hG σ sr ln Lc μ) rfl ?_
    refine am_call (y := 140) (vs := [.long (n.toInt64), .long 0, .long (((μ 3 0) - 1).toInt64)]) (rest := []) (v := (some (.int 0))) (h1 := (hG σ sr ln Lc μ)) rfl rfl rfl (sp_X12_in_b d _ _ _ _ eb) ?_
    exact am_ret2 rfl rfl rfl rfl rfl
  | true =>
    refine am_g 8 10 [some (.ref 47), some (.int n)] [.long (((μ 3 0) - 1).toInt64), .long 0, .long (n.toInt64)] (hG σ sr ln Lc μ) rfl ?_
    refine am_call (y := 140) (vs := [.long (n.toInt64), .long 0, .long (((μ 3 0) - 1).toInt64)]) (rest := []) (v := (some (.int 1))) (h1 := (hG σ sr ln Lc μ)) rfl rfl rfl (sp_X12_in_b d _ _ _ _ eb) ?_
    exact am_ret2 rfl rfl rfl rfl rfl
theorem sp_X12_isLine (d : Nat) (n : Int32) {q : Nat} (hq : μ 17 0 = nI q) (hq2 : q < 2 ^ 31) {b : Bool} (eb : am_in n q = b) : am_X xs LL (d + 2) 152 [.ref 47, .int n] (hG σ sr ln Lc μ) (some (.int (am_b2 b))) (hG σ sr ln Lc μ) := by
  refine am_XR (d := d + 1) (C := cd_X12_isLine) (L := [some (.ref 47), some (.int n)]) rfl rfl rfl rfl ?_
  rw [← am_in64 hq2, ← hq] at eb
  cases b with
  | false =>
    refine am_g 8 10 [some (.ref 47), some (.int n)] [.long (((μ 17 0) - 1).toInt64), .long 0, .long (n.toInt64)] (hG σ sr ln Lc μ) rfl ?_
    refine am_call (y := 140) (vs := [.long (n.toInt64), .long 0, .long (((μ 17 0) - 1).toInt64)]) (rest := []) (v := (some (.int 0))) (h1 := (hG σ sr ln Lc μ)) rfl rfl rfl (sp_X12_in_b d _ _ _ _ eb) ?_
    exact am_ret2 rfl rfl rfl rfl rfl
  | true =>
    refine am_g 8 10 [some (.ref 47), some (.int n)] [.long (((μ 17 0) - 1).toInt64), .long 0, .long (n.toInt64)] (hG σ sr ln Lc μ) rfl ?_
    refine am_call (y := 140) (vs := [.long (n.toInt64), .long 0, .long (((μ 17 0) - 1).toInt64)]) (rest := []) (v := (some (.int 1))) (h1 := (hG σ sr ln Lc μ)) rfl rfl rfl (sp_X12_in_b d _ _ _ _ eb) ?_
    exact am_ret2 rfl rfl rfl rfl rfl
theorem sp_X12_isObject (d : Nat) (n : Int32) {q : Nat} (hq : μ 19 0 = nI q) (hq2 : q < 2 ^ 31) {b : Bool} (eb : am_in n q = b) : am_X xs LL (d + 2) 153 [.ref 47, .int n] (hG σ sr ln Lc μ) (some (.int (am_b2 b))) (hG σ sr ln Lc μ) := by
  refine am_XR (d := d + 1) (C := cd_X12_isObject) (L := [some (.ref 47), some (.int n)]) rfl rfl rfl rfl ?_
  rw [← am_in64 hq2, ← hq] at eb
  cases b with
  | false =>
    refine am_g 8 10 [some (.ref 47), some (.int n)] [.long (((μ 19 0) - 1).toInt64), .long 0, .long (n.toInt64)] (hG σ sr ln Lc μ) rfl ?_
    refine am_call (y := 140) (vs := [.long (n.toInt64), .long 0, .long (((μ 19 0) - 1).toInt64)]) (rest := []) (v := (some (.int 0))) (h1 := (hG σ sr ln Lc μ)) rfl rfl rfl (sp_X12_in_b d _ _ _ _ eb) ?_
    exact am_ret2 rfl rfl rfl rfl rfl
  | true =>
    refine am_g 8 10 [some (.ref 47), some (.int n)] [.long (((μ 19 0) - 1).toInt64), .long 0, .long (n.toInt64)] (hG σ sr ln Lc μ) rfl ?_
    refine am_call (y := 140) (vs := [.long (n.toInt64), .long 0, .long (((μ 19 0) - 1).toInt64)]) (rest := []) (v := (some (.int 1))) (h1 := (hG σ sr ln Lc μ)) rfl rfl rfl (sp_X12_in_b d _ _ _ _ eb) ?_
    exact am_ret2 rfl rfl rfl rfl rfl
end MB
