/-! the class: what is held, what follows -/
theorem am_idivR {xs : Nat → Int32} {LL : Nat} {C : Nat → Option am_En} {K : Nat → List Value → am_H → Option Value → am_H → Prop} {pc : Nat} {L : am_L} {st : List Value} {h : am_H} {r : Option Value} {h' : am_H} {ln0 a : Nat} {v : Int} {tg : List (Nat × Nat)} {ps : List Nat} {x y : Int32} (hc : C pc = some (.idiv, ln0, a, v, tg, ps)) (hy : ¬ y = 0) (kk : am_R xs LL C K (pc + 1) L (.int (x / y) :: st) h r h') : am_R xs LL C K pc L (.int y :: .int x :: st) h r h' := by
  refine am_R1 (S := (pc + 1, L, .int (x / y) :: st, h)) hc rfl ?_ kk
  dsimp only [am_step, am_op2]
  rw [if_neg hy]
section XH
variable {xs : Nat → Int32} {LL : Nat} {σ μ τ ρ : Nat → Nat → Int32} {sr : Nat → Nat} {ln : Nat → Nat → Int32} {Lc : Nat}
theorem sp_X11_holds_ok (d : Nat) (n : Nat) (hn : n < 20) (hf : ∀ d, am_X xs LL (d + 6) 52 [.ref 23] (hG σ sr ln Lc μ) (some (.ref 23)) (hG τ sr ln Lc μ)) : am_X xs LL (d + 7) 98 [.ref 14, .int (nI n)] (hG σ sr ln Lc μ) (some (.int (τ 12 n))) (hG τ sr ln Lc μ) := by
  refine am_XR (d := d + 6) (C := cd_X11_holds) (L := [some (.ref 14), some (.int (nI n))]) rfl rfl rfl rfl ?_
  refine am_g 1 1 [some (.ref 14), some (.int (nI n))] [.int (nI n)] (hG σ sr ln Lc μ) rfl ?_
  refine am_call (y := 123) (vs := [.int (nI n)]) (rest := []) (v := (some (.int 1))) (h1 := (hG σ sr ln Lc μ)) rfl rfl rfl (sp_X11_isName (d + 4) _ _ (am_in_of_nI hn (by omega))) ?_
  refine am_g 3 14 [some (.ref 14), some (.int (nI n))] [.ref 23] (hG σ sr ln Lc μ) rfl ?_
  refine am_call (y := 52) (vs := [.ref 23]) (rest := []) (v := (some (.ref 23))) (h1 := (hG τ sr ln Lc μ)) rfl rfl rfl (hf d) ?_
  refine am_g 1 18 [some (.ref 14), some (.int (nI n))] [.int (nI n), .ref 23] (hG τ sr ln Lc μ) rfl ?_
  refine am_call (y := 56) (vs := [.ref 23, .int (nI n)]) (rest := []) (v := (some (.int (τ 12 n)))) (h1 := (hG τ sr ln Lc μ)) rfl rfl rfl (sp_X7_heldAt_0_k (σ := τ) (μ := μ) (d + 5) n (by omega)) ?_
  exact am_ret2 rfl rfl rfl rfl rfl
theorem sp_X11_holds_bad (d : Nat) (n : Int32) (hb : am_in n 20 = false) : am_X xs LL (d + 3) 98 [.ref 14, .int n] (hG σ sr ln Lc μ) (some (.int (-2))) (hG σ sr ln Lc μ) := by
  refine am_XR (d := d + 2) (C := cd_X11_holds) (L := [some (.ref 14), some (.int n)]) rfl rfl rfl rfl ?_
  refine am_g 1 1 [some (.ref 14), some (.int n)] [.int n] (hG σ sr ln Lc μ) rfl ?_
  refine am_call (y := 123) (vs := [.int n]) (rest := []) (v := (some (.int 0))) (h1 := (hG σ sr ln Lc μ)) rfl rfl rfl (sp_X11_isName d _ _ hb) ?_
  refine am_g 2 9 [some (.ref 14), some (.int n)] [.int (-2)] (hG σ sr ln Lc μ) rfl ?_
  exact am_ret2 rfl rfl rfl rfl rfl
theorem sp_X11_byKinds_ok (d : Nat) (n : Nat) (hn : n < 20) (hg : ∀ d, am_X xs LL (d + 6) 52 [.ref 27] (hG σ sr ln Lc μ) (some (.ref 27)) (hG τ sr ln Lc μ)) : am_X xs LL (d + 7) 102 [.ref 14, .int (nI n)] (hG σ sr ln Lc μ) (some (.int (τ 22 n))) (hG τ sr ln Lc μ) := by
  refine am_XR (d := d + 6) (C := cd_X11_byKinds) (L := [some (.ref 14), some (.int (nI n))]) rfl rfl rfl rfl ?_
  refine am_g 1 1 [some (.ref 14), some (.int (nI n))] [.int (nI n)] (hG σ sr ln Lc μ) rfl ?_
  refine am_call (y := 123) (vs := [.int (nI n)]) (rest := []) (v := (some (.int 1))) (h1 := (hG σ sr ln Lc μ)) rfl rfl rfl (sp_X11_isName (d + 4) _ _ (am_in_of_nI hn (by omega))) ?_
  refine am_g 3 14 [some (.ref 14), some (.int (nI n))] [.ref 27] (hG σ sr ln Lc μ) rfl ?_
  refine am_call (y := 52) (vs := [.ref 27]) (rest := []) (v := (some (.ref 27))) (h1 := (hG τ sr ln Lc μ)) rfl rfl rfl (hg d) ?_
  refine am_g 1 18 [some (.ref 14), some (.int (nI n))] [.int (nI n), .ref 27] (hG τ sr ln Lc μ) rfl ?_
  refine am_call (y := 56) (vs := [.ref 27, .int (nI n)]) (rest := []) (v := (some (.int (τ 22 n)))) (h1 := (hG τ sr ln Lc μ)) rfl rfl rfl (sp_X7_heldAt_1_k (σ := τ) (μ := μ) (d + 5) n (by omega)) ?_
  exact am_ret2 rfl rfl rfl rfl rfl
theorem sp_X11_byKinds_bad (d : Nat) (n : Int32) (hb : am_in n 20 = false) : am_X xs LL (d + 3) 102 [.ref 14, .int n] (hG σ sr ln Lc μ) (some (.int (-2))) (hG σ sr ln Lc μ) := by
  refine am_XR (d := d + 2) (C := cd_X11_byKinds) (L := [some (.ref 14), some (.int n)]) rfl rfl rfl rfl ?_
  refine am_g 1 1 [some (.ref 14), some (.int n)] [.int n] (hG σ sr ln Lc μ) rfl ?_
  refine am_call (y := 123) (vs := [.int n]) (rest := []) (v := (some (.int 0))) (h1 := (hG σ sr ln Lc μ)) rfl rfl rfl (sp_X11_isName d _ _ hb) ?_
  refine am_g 2 9 [some (.ref 14), some (.int n)] [.int (-2)] (hG σ sr ln Lc μ) rfl ?_
  exact am_ret2 rfl rfl rfl rfl rfl
theorem sp_X11_field_ok (d : Nat) {O : Nat} (hO : σ 6 0 = nI O) (hO16 : O ≤ 16) (o f : Nat) (ho : o < O) (hf3 : f < 3) (hf : ∀ d, am_X xs LL (d + 6) 52 [.ref 23] (hG σ sr ln Lc μ) (some (.ref 23)) (hG τ sr ln Lc μ)) : am_X xs LL (d + 7) 99 [.ref 14, .int (nI o), .int (nI f)] (hG σ sr ln Lc μ) (some (.int (τ 12 (20 + 3 * o + f)))) (hG τ sr ln Lc μ) := by
  refine am_XR (d := d + 6) (C := cd_X11_field) (L := [some (.ref 14), some (.int (nI o)), some (.int (nI f))]) rfl rfl rfl rfl ?_
  refine am_g 3 5 [some (.ref 14), some (.int (nI o)), some (.int (nI f))] [.int (nI o), .ref 15] (hG σ sr ln Lc μ) rfl ?_
  refine am_call (y := 31) (vs := [.ref 15, .int (nI o)]) (rest := []) (v := (some (.int 1))) (h1 := (hG σ sr ln Lc μ)) rfl rfl rfl (sp_X3_isObject (σ := σ) (μ := μ) (d + 5) hO hO16 _ (am_in_of_nI ho (by omega))) ?_
  refine am_g 4 14 [some (.ref 14), some (.int (nI o)), some (.int (nI f))] [.int 2, .int 0, .int (nI f)] (hG σ sr ln Lc μ) rfl ?_
  refine am_call (y := 122) (vs := [.int (nI f), .int 0, .int 2]) (rest := []) (v := (some (.int 1))) (h1 := (hG σ sr ln Lc μ)) rfl rfl rfl (sp_X11_isWithin_b (d + 5) _ _ _ _ ((am_wi (by decide)).trans (am_in_of_nI hf3 (by omega)))) ?_
  refine am_g 3 27 [some (.ref 14), some (.int (nI o)), some (.int (nI f))] [.ref 23] (hG σ sr ln Lc μ) rfl ?_
  refine am_call (y := 52) (vs := [.ref 23]) (rest := []) (v := (some (.ref 23))) (h1 := (hG τ sr ln Lc μ)) rfl rfl rfl (hf d) ?_
  refine am_g 2 32 [some (.ref 14), some (.int (nI o)), some (.int (nI f))] [.int (nI f), .int (nI o), .ref 23] (hG τ sr ln Lc μ) rfl ?_
  refine am_call (y := 127) (vs := [.int (nI o), .int (nI f)]) (rest := [.ref 23]) (v := (some (.int (nI (20 + 3 * o + f))))) (h1 := (hG τ sr ln Lc μ)) rfl rfl rfl (sp_X11_fieldPlace_v (d + 4) o f _ _ (rfl) (rfl) (by omega) (by omega) _) ?_
  refine am_call (y := 56) (vs := [.ref 23, .int (nI (20 + 3 * o + f))]) (rest := []) (v := (some (.int (τ 12 (20 + 3 * o + f))))) (h1 := (hG τ sr ln Lc μ)) rfl rfl rfl (sp_X7_heldAt_0_k (σ := τ) (μ := μ) (d + 5) (20 + 3 * o + f) (by omega)) ?_
  exact am_ret2 rfl rfl rfl rfl rfl
theorem sp_X11_field_bad1 (d : Nat) {O : Nat} (hO : σ 6 0 = nI O) (hO16 : O ≤ 16) (o f : Int32) (hb : am_in o O = false) : am_X xs LL (d + 3) 99 [.ref 14, .int o, .int f] (hG σ sr ln Lc μ) (some (.int (-2))) (hG σ sr ln Lc μ) := by
  refine am_XR (d := d + 2) (C := cd_X11_field) (L := [some (.ref 14), some (.int o), some (.int f)]) rfl rfl rfl rfl ?_
  refine am_g 3 5 [some (.ref 14), some (.int o), some (.int f)] [.int o, .ref 15] (hG σ sr ln Lc μ) rfl ?_
  refine am_call (y := 31) (vs := [.ref 15, .int o]) (rest := []) (v := (some (.int 0))) (h1 := (hG σ sr ln Lc μ)) rfl rfl rfl (sp_X3_isObject (σ := σ) (μ := μ) (d + 1) hO hO16 _ hb) ?_
  refine am_g 2 22 [some (.ref 14), some (.int o), some (.int f)] [.int (-2)] (hG σ sr ln Lc μ) rfl ?_
  exact am_ret2 rfl rfl rfl rfl rfl
theorem sp_X11_field_bad2 (d : Nat) {O : Nat} (hO : σ 6 0 = nI O) (hO16 : O ≤ 16) (o : Nat) (f : Int32) (ho : o < O) (hb : am_in f 3 = false) : am_X xs LL (d + 3) 99 [.ref 14, .int (nI o), .int f] (hG σ sr ln Lc μ) (some (.int (-2))) (hG σ sr ln Lc μ) := by
  refine am_XR (d := d + 2) (C := cd_X11_field) (L := [some (.ref 14), some (.int (nI o)), some (.int f)]) rfl rfl rfl rfl ?_
  refine am_g 3 5 [some (.ref 14), some (.int (nI o)), some (.int f)] [.int (nI o), .ref 15] (hG σ sr ln Lc μ) rfl ?_
  refine am_call (y := 31) (vs := [.ref 15, .int (nI o)]) (rest := []) (v := (some (.int 1))) (h1 := (hG σ sr ln Lc μ)) rfl rfl rfl (sp_X3_isObject (σ := σ) (μ := μ) (d + 1) hO hO16 _ (am_in_of_nI ho (by omega))) ?_
  refine am_g 4 14 [some (.ref 14), some (.int (nI o)), some (.int f)] [.int 2, .int 0, .int f] (hG σ sr ln Lc μ) rfl ?_
  refine am_call (y := 122) (vs := [.int f, .int 0, .int 2]) (rest := []) (v := (some (.int 0))) (h1 := (hG σ sr ln Lc μ)) rfl rfl rfl (sp_X11_isWithin_b (d + 1) _ _ _ _ ((am_wi (by decide)).trans hb)) ?_
  refine am_g 2 22 [some (.ref 14), some (.int (nI o)), some (.int f)] [.int (-2)] (hG σ sr ln Lc μ) rfl ?_
  exact am_ret2 rfl rfl rfl rfl rfl
theorem sp_X11_still (d : Nat) (hf : ∀ d, am_X xs LL (d + 6) 52 [.ref 23] (hG σ sr ln Lc μ) (some (.ref 23)) (hG τ sr ln Lc μ)) : am_X xs LL (d + 7) 100 [.ref 14] (hG σ sr ln Lc μ) (some (.int (τ 11 0))) (hG τ sr ln Lc μ) := by
  refine am_XR (d := d + 6) (C := cd_X11_still) (L := [some (.ref 14)]) rfl rfl rfl rfl ?_
  refine am_g 2 4 [some (.ref 14)] [.ref 23] (hG σ sr ln Lc μ) rfl ?_
  refine am_call (y := 52) (vs := [.ref 23]) (rest := []) (v := (some (.ref 23))) (h1 := (hG τ sr ln Lc μ)) rfl rfl rfl (hf d) ?_
  refine am_g 1 10 [some (.ref 14)] [.int (τ 11 0)] (hG τ sr ln Lc μ) rfl ?_
  exact am_ret2 rfl rfl rfl rfl rfl
theorem sp_X7_roundsTo_0 (d : Nat) (o n : Nat) (ho : o < 16) (hn : n < 20) : am_X xs LL (d + 2) 58 [.ref 23, .int (nI o), .int (nI n)] (hG τ sr ln Lc μ) (some (.int (bif am_hb (τ 12 n) o then τ 14 (16 * n + o) else -1))) (hG τ sr ln Lc μ) := by
  refine am_XR (d := d + 1) (C := cd_X7_roundsTo) (L := [some (.ref 23), some (.int (nI o)), some (.int (nI n)), none, none]) rfl rfl rfl rfl ?_
  refine am_g 8 (if (((nI n) * 16) + (nI o)) < 0 then 24 else 11) [some (.ref 23), some (.int (nI o)), some (.int (nI n)), some (.int (((nI n) * 16) + (nI o))), none] [] (hG τ sr ln Lc μ) rfl ?_
  rw [if_neg (show ¬ (((nI n) * 16) + (nI o)) < 0 from (am_dnlt (a := ((16 * n) + o)) (b := 0) (show (((nI n) * (nI 16)) + (nI o)) = nI ((16 * n) + o) from by first | (simp only [nI_mul2, nI_add]; done) | (simp only [nI_mul2, nI_add]; exact congrArg nI (by omega))) (rfl) (by omega) (by omega) (by omega)))]
  refine am_g 5 (if 320 ≤ (((nI n) * 16) + (nI o)) then 24 else 20) [some (.ref 23), some (.int (nI o)), some (.int (nI n)), some (.int (((nI n) * 16) + (nI o))), none] [] (hG τ sr ln Lc μ) rfl ?_
  rw [if_neg (show ¬ 320 ≤ (((nI n) * 16) + (nI o)) from (am_dnle (a := 320) (b := ((16 * n) + o)) (rfl) (show (((nI n) * (nI 16)) + (nI o)) = nI ((16 * n) + o) from by first | (simp only [nI_mul2, nI_add]; done) | (simp only [nI_mul2, nI_add]; exact congrArg nI (by omega))) (by omega) (by omega) (by omega)))]
  refine am_g 7 34 [some (.ref 23), some (.int (nI o)), some (.int (nI n)), some (.int (((nI n) * 16) + (nI o))), some (.int 1)] [.int (nI n), .ref 23] (hG τ sr ln Lc μ) rfl ?_
  refine am_call (y := 56) (vs := [.ref 23, .int (nI n)]) (rest := []) (v := (some (.int (τ 12 n)))) (h1 := (hG τ sr ln Lc μ)) rfl rfl rfl (sp_X7_heldAt_0_k (σ := τ) (μ := μ) d n (by omega)) ?_
  refine am_g 1 38 [some (.ref 23), some (.int (nI o)), some (.int (nI n)), some (.int (((nI n) * 16) + (nI o))), some (.int 1)] [.int (nI o), .int (τ 12 n)] (hG τ sr ln Lc μ) rfl ?_
  cases e1 : am_hb (τ 12 n) o with
  | false =>
    refine am_call (y := 126) (vs := [.int (τ 12 n), .int (nI o)]) (rest := []) (v := (some (.int 0))) (h1 := (hG τ sr ln Lc μ)) rfl rfl rfl (sp_X11_hasBit d _ _ _ e1) ?_
    refine am_g 2 54 [some (.ref 23), some (.int (nI o)), some (.int (nI n)), some (.int (((nI n) * 16) + (nI o))), some (.int 1)] [.int (-1)] (hG τ sr ln Lc μ) rfl ?_
    exact am_ret2 rfl rfl rfl rfl rfl
  | true =>
    refine am_call (y := 126) (vs := [.int (τ 12 n), .int (nI o)]) (rest := []) (v := (some (.int 1))) (h1 := (hG τ sr ln Lc μ)) rfl rfl rfl (sp_X11_hasBit d _ _ _ e1) ?_
    refine am_g 4 49 [some (.ref 23), some (.int (nI o)), some (.int (nI n)), some (.int (((nI n) * 16) + (nI o))), some (.int 1)] [.int (((nI n) * 16) + (nI o)), .ref 26] (hG τ sr ln Lc μ) rfl ?_
    refine am_ialdR (n := 320) (f := (τ 14)) (k := ((16 * n) + o)) rfl rfl (show (((nI n) * (nI 16)) + (nI o)) = nI ((16 * n) + o) from by first | (simp only [nI_mul2, nI_add]; done) | (simp only [nI_mul2, nI_add]; exact congrArg nI (by omega))) (by omega) (by decide) ?_
    refine am_g 1 54 [some (.ref 23), some (.int (nI o)), some (.int (nI n)), some (.int (((nI n) * 16) + (nI o))), some (.int 1)] [.int (τ 14 ((16 * n) + o))] (hG τ sr ln Lc μ) rfl ?_
    exact am_ret2 rfl rfl rfl rfl rfl
theorem sp_X11_way_ok (d : Nat) {O : Nat} (hO : σ 6 0 = nI O) (hO16 : O ≤ 16) (o n : Nat) (ho : o < O) (hn : n < 20) (hf : ∀ d, am_X xs LL (d + 6) 52 [.ref 23] (hG σ sr ln Lc μ) (some (.ref 23)) (hG τ sr ln Lc μ)) : am_X xs LL (d + 7) 101 [.ref 14, .int (nI o), .int (nI n)] (hG σ sr ln Lc μ) (some (.int (bif am_hb (τ 12 n) o then τ 14 (16 * n + o) else -1))) (hG τ sr ln Lc μ) := by
  refine am_XR (d := d + 6) (C := cd_X11_way) (L := [some (.ref 14), some (.int (nI o)), some (.int (nI n))]) rfl rfl rfl rfl ?_
  refine am_g 3 5 [some (.ref 14), some (.int (nI o)), some (.int (nI n))] [.int (nI o), .ref 15] (hG σ sr ln Lc μ) rfl ?_
  refine am_call (y := 31) (vs := [.ref 15, .int (nI o)]) (rest := []) (v := (some (.int 1))) (h1 := (hG σ sr ln Lc μ)) rfl rfl rfl (sp_X3_isObject (σ := σ) (μ := μ) (d + 5) hO hO16 _ (am_in_of_nI ho (by omega))) ?_
  refine am_g 2 12 [some (.ref 14), some (.int (nI o)), some (.int (nI n))] [.int (nI n)] (hG σ sr ln Lc μ) rfl ?_
  refine am_call (y := 123) (vs := [.int (nI n)]) (rest := []) (v := (some (.int 1))) (h1 := (hG σ sr ln Lc μ)) rfl rfl rfl (sp_X11_isName (d + 4) _ _ (am_in_of_nI hn (by omega))) ?_
  refine am_g 3 25 [some (.ref 14), some (.int (nI o)), some (.int (nI n))] [.ref 23] (hG σ sr ln Lc μ) rfl ?_
  refine am_call (y := 52) (vs := [.ref 23]) (rest := []) (v := (some (.ref 23))) (h1 := (hG τ sr ln Lc μ)) rfl rfl rfl (hf d) ?_
  refine am_g 2 30 [some (.ref 14), some (.int (nI o)), some (.int (nI n))] [.int (nI n), .int (nI o), .ref 23] (hG τ sr ln Lc μ) rfl ?_
  refine am_call (y := 58) (vs := [.ref 23, .int (nI o), .int (nI n)]) (rest := []) (v := (some (.int (bif am_hb (τ 12 n) o then τ 14 (16 * n + o) else -1)))) (h1 := (hG τ sr ln Lc μ)) rfl rfl rfl (sp_X7_roundsTo_0 (d + 4) o n (by omega) (by omega)) ?_
  exact am_ret2 rfl rfl rfl rfl rfl
theorem sp_X11_way_bad1 (d : Nat) {O : Nat} (hO : σ 6 0 = nI O) (hO16 : O ≤ 16) (o n : Int32) (hb : am_in o O = false) : am_X xs LL (d + 3) 101 [.ref 14, .int o, .int n] (hG σ sr ln Lc μ) (some (.int (-2))) (hG σ sr ln Lc μ) := by
  refine am_XR (d := d + 2) (C := cd_X11_way) (L := [some (.ref 14), some (.int o), some (.int n)]) rfl rfl rfl rfl ?_
  refine am_g 3 5 [some (.ref 14), some (.int o), some (.int n)] [.int o, .ref 15] (hG σ sr ln Lc μ) rfl ?_
  refine am_call (y := 31) (vs := [.ref 15, .int o]) (rest := []) (v := (some (.int 0))) (h1 := (hG σ sr ln Lc μ)) rfl rfl rfl (sp_X3_isObject (σ := σ) (μ := μ) (d + 1) hO hO16 _ hb) ?_
  refine am_g 2 20 [some (.ref 14), some (.int o), some (.int n)] [.int (-2)] (hG σ sr ln Lc μ) rfl ?_
  exact am_ret2 rfl rfl rfl rfl rfl
theorem sp_X11_way_bad2 (d : Nat) {O : Nat} (hO : σ 6 0 = nI O) (hO16 : O ≤ 16) (o : Nat) (n : Int32) (ho : o < O) (hb : am_in n 20 = false) : am_X xs LL (d + 3) 101 [.ref 14, .int (nI o), .int n] (hG σ sr ln Lc μ) (some (.int (-2))) (hG σ sr ln Lc μ) := by
  refine am_XR (d := d + 2) (C := cd_X11_way) (L := [some (.ref 14), some (.int (nI o)), some (.int n)]) rfl rfl rfl rfl ?_
  refine am_g 3 5 [some (.ref 14), some (.int (nI o)), some (.int n)] [.int (nI o), .ref 15] (hG σ sr ln Lc μ) rfl ?_
  refine am_call (y := 31) (vs := [.ref 15, .int (nI o)]) (rest := []) (v := (some (.int 1))) (h1 := (hG σ sr ln Lc μ)) rfl rfl rfl (sp_X3_isObject (σ := σ) (μ := μ) (d + 1) hO hO16 _ (am_in_of_nI ho (by omega))) ?_
  refine am_g 2 12 [some (.ref 14), some (.int (nI o)), some (.int n)] [.int n] (hG σ sr ln Lc μ) rfl ?_
  refine am_call (y := 123) (vs := [.int n]) (rest := []) (v := (some (.int 0))) (h1 := (hG σ sr ln Lc μ)) rfl rfl rfl (sp_X11_isName d _ _ hb) ?_
  refine am_g 2 20 [some (.ref 14), some (.int (nI o)), some (.int n)] [.int (-2)] (hG σ sr ln Lc μ) rfl ?_
  exact am_ret2 rfl rfl rfl rfl rfl
theorem sp_X11_cast_bad (d : Nat) (q : Int32) (hb : am_in q Lc = false) (hL : Lc ≤ 40) : am_X xs LL (d + 2) 105 [.ref 14, .int q] (hG σ sr ln Lc μ) (some (.int (-2))) (hG σ sr ln Lc μ) := by
  refine am_XR (d := d + 1) (C := cd_X11_cast) (L := [some (.ref 14), some (.int q), none, none, none, none]) rfl rfl rfl rfl ?_
  refine am_g 2 2 [some (.ref 14), some (.int q), none, none, none, none] [.int q, .ref 14] (hG σ sr ln Lc μ) rfl ?_
  refine am_call (y := 128) (vs := [.ref 14, .int q]) (rest := []) (v := (some (.null))) (h1 := (hG σ sr ln Lc μ)) rfl rfl rfl (sp_X11_lineAt_no (σ := σ) (μ := μ) d _ hb hL) ?_
  refine am_g 4 12 [some (.ref 14), some (.int q), some (.null), none, none, none] [.int (-2)] (hG σ sr ln Lc μ) rfl ?_
  exact am_ret2 rfl rfl rfl rfl rfl
theorem sp_X11_aims_bad (d : Nat) (q : Int32) (hb : am_in q Lc = false) (hL : Lc ≤ 40) : am_X xs LL (d + 2) 106 [.ref 14, .int q] (hG σ sr ln Lc μ) (some (.int (-2))) (hG σ sr ln Lc μ) := by
  refine am_XR (d := d + 1) (C := cd_X11_aims) (L := [some (.ref 14), some (.int q), none]) rfl rfl rfl rfl ?_
  refine am_g 2 2 [some (.ref 14), some (.int q), none] [.int q, .ref 14] (hG σ sr ln Lc μ) rfl ?_
  refine am_call (y := 128) (vs := [.ref 14, .int q]) (rest := []) (v := (some (.null))) (h1 := (hG σ sr ln Lc μ)) rfl rfl rfl (sp_X11_lineAt_no (σ := σ) (μ := μ) d _ hb hL) ?_
  refine am_g 4 12 [some (.ref 14), some (.int q), some (.null)] [.int (-2)] (hG σ sr ln Lc μ) rfl ?_
  exact am_ret2 rfl rfl rfl rfl rfl
theorem pu_insn_1 {s : Nat} (hs : s < 6) (h : ¬ s = 1) : [false, true, false, false, false, false].getD s false = false := by
  match s, hs with
  | 0, _ => rfl
  | 1, _ => exact absurd rfl h
  | 2, _ => rfl
  | 3, _ => rfl
  | 4, _ => rfl
  | 5, _ => rfl
theorem sp_X11_cast_state (d : Nat) (q : Nat) (hq : q < Lc) (hL : Lc ≤ 40) (hsr : ∀ i, i < Lc → sr i < 6) (hs : ¬ sr q = 1) : am_X xs LL (d + 2) 105 [.ref 14, .int (nI q)] (hG σ sr ln Lc μ) (some (.int (-3))) (hG σ sr ln Lc μ) := by
  refine am_XR (d := d + 1) (C := cd_X11_cast) (L := [some (.ref 14), some (.int (nI q)), none, none, none, none]) rfl rfl rfl rfl ?_
  refine am_g 2 2 [some (.ref 14), some (.int (nI q)), none, none, none, none] [.int (nI q), .ref 14] (hG σ sr ln Lc μ) rfl ?_
  refine am_call (y := 128) (vs := [.ref 14, .int (nI q)]) (rest := []) (v := (some (.ref (75 + q)))) (h1 := (hG σ sr ln Lc μ)) rfl rfl rfl (sp_X11_lineAt_ok (σ := σ) (μ := μ) d q hq hL) ?_
  refine am_g 2 7 [some (.ref 14), some (.int (nI q)), some (.ref (75 + q)), none, none, none] [.ref (75 + q)] (hG σ sr ln Lc μ) rfl ?_
  refine am_lnn2R rfl _ ?_
  refine am_g 1 14 [some (.ref 14), some (.int (nI q)), some (.ref (75 + q)), none, none, none] [.ref (75 + q)] (hG σ sr ln Lc μ) rfl ?_
  refine am_linsR (i := q) (b := [false, true, false, false, false, false].getD (sr q) false) rfl hq (am_lk (f := fun s => bif [false, true, false, false, false, false].getD s false then 1 else 0) (by decide) (hsr _ hq)) ?_
  cases e1 : [false, true, false, false, false, false].getD (sr q) false with
  | false =>
    refine am_g 2 22 [some (.ref 14), some (.int (nI q)), some (.ref (75 + q)), none, none, none] [.int (-3)] (hG σ sr ln Lc μ) rfl ?_
    exact am_ret2 rfl rfl rfl rfl rfl
  | true =>
    refine am_g 1 23 [some (.ref 14), some (.int (nI q)), some (.ref (75 + q)), none, none, none] [] (hG σ sr ln Lc μ) rfl ?_
    exact absurd (e1.symm.trans (pu_insn_1 (hsr q hq) hs)) (by decide)
theorem pu_insn_4 {s : Nat} (hs : s < 6) (h : ¬ s = 4) : [false, false, false, false, true, false].getD s false = false := by
  match s, hs with
  | 0, _ => rfl
  | 1, _ => rfl
  | 2, _ => rfl
  | 3, _ => rfl
  | 4, _ => exact absurd rfl h
  | 5, _ => rfl
theorem sp_X11_aims_state (d : Nat) (q : Nat) (hq : q < Lc) (hL : Lc ≤ 40) (hsr : ∀ i, i < Lc → sr i < 6) (hs : ¬ sr q = 4) : am_X xs LL (d + 2) 106 [.ref 14, .int (nI q)] (hG σ sr ln Lc μ) (some (.int (-3))) (hG σ sr ln Lc μ) := by
  refine am_XR (d := d + 1) (C := cd_X11_aims) (L := [some (.ref 14), some (.int (nI q)), none]) rfl rfl rfl rfl ?_
  refine am_g 2 2 [some (.ref 14), some (.int (nI q)), none] [.int (nI q), .ref 14] (hG σ sr ln Lc μ) rfl ?_
  refine am_call (y := 128) (vs := [.ref 14, .int (nI q)]) (rest := []) (v := (some (.ref (75 + q)))) (h1 := (hG σ sr ln Lc μ)) rfl rfl rfl (sp_X11_lineAt_ok (σ := σ) (μ := μ) d q hq hL) ?_
  refine am_g 2 7 [some (.ref 14), some (.int (nI q)), some (.ref (75 + q))] [.ref (75 + q)] (hG σ sr ln Lc μ) rfl ?_
  refine am_lnn2R rfl _ ?_
  refine am_g 1 14 [some (.ref 14), some (.int (nI q)), some (.ref (75 + q))] [.ref (75 + q)] (hG σ sr ln Lc μ) rfl ?_
  refine am_linsR (i := q) (b := [false, false, false, false, true, false].getD (sr q) false) rfl hq (am_lk (f := fun s => bif [false, false, false, false, true, false].getD s false then 1 else 0) (by decide) (hsr _ hq)) ?_
  cases e1 : [false, false, false, false, true, false].getD (sr q) false with
  | false =>
    refine am_g 2 22 [some (.ref 14), some (.int (nI q)), some (.ref (75 + q))] [.int (-3)] (hG σ sr ln Lc μ) rfl ?_
    exact am_ret2 rfl rfl rfl rfl rfl
  | true =>
    refine am_g 1 23 [some (.ref 14), some (.int (nI q)), some (.ref (75 + q))] [] (hG σ sr ln Lc μ) rfl ?_
    exact absurd (e1.symm.trans (pu_insn_4 (hsr q hq) hs)) (by decide)
theorem sp_X11_cast_ok (d : Nat) (q : Nat) (hq : q < Lc) (hL : Lc ≤ 40) (hs : sr q = 1) {b : Nat} (hb : b < 20) (h1 : ln q 1 = nI b) (hab : am_wab (τ 1)) (hk : ∀ p, p < 16 → am_hb (τ 12 b) p = true → am_pl 8 (am_kf τ false p)) (hf : ∀ d, am_X xs LL (d + 6) 52 [.ref 23] (hG σ sr ln Lc μ) (some (.ref 23)) (hG τ sr ln Lc μ)) : am_X xs LL (d + 7) 105 [.ref 14, .int (nI q)] (hG σ sr ln Lc μ) (some (.int (if (am_orF (am_okF (τ 1) (am_kf τ false) (τ 12 b) (ln q 2)) 16) = (τ 12 b) then 0 else if (am_orF (am_okF (τ 1) (am_kf τ false) (τ 12 b) (ln q 2)) 16) = 0 then 2 else 1))) (hG τ sr ln Lc μ) := by
  refine am_XR (d := d + 6) (C := cd_X11_cast) (L := [some (.ref 14), some (.int (nI q)), none, none, none, none]) rfl rfl rfl rfl ?_
  refine am_g 2 2 [some (.ref 14), some (.int (nI q)), none, none, none, none] [.int (nI q), .ref 14] (hG σ sr ln Lc μ) rfl ?_
  refine am_call (y := 128) (vs := [.ref 14, .int (nI q)]) (rest := []) (v := (some (.ref (75 + q)))) (h1 := (hG σ sr ln Lc μ)) rfl rfl rfl (sp_X11_lineAt_ok (σ := σ) (μ := μ) (d + 5) q hq hL) ?_
  refine am_g 2 7 [some (.ref 14), some (.int (nI q)), some (.ref (75 + q)), none, none, none] [.ref (75 + q)] (hG σ sr ln Lc μ) rfl ?_
  refine am_lnn2R rfl _ ?_
  refine am_g 1 14 [some (.ref 14), some (.int (nI q)), some (.ref (75 + q)), none, none, none] [.ref (75 + q)] (hG σ sr ln Lc μ) rfl ?_
  refine am_linsR (i := q) (b := true) rfl hq (by rw [hs]; rfl) ?_
  refine am_g 3 27 [some (.ref 14), some (.int (nI q)), some (.ref (75 + q)), none, none, none] [.ref 23] (hG σ sr ln Lc μ) rfl ?_
  refine am_call (y := 52) (vs := [.ref 23]) (rest := []) (v := (some (.ref 23))) (h1 := (hG τ sr ln Lc μ)) rfl rfl rfl (hf d) ?_
  refine am_g 3 33 [some (.ref 14), some (.int (nI q)), some (.ref (75 + q)), some (.ref 23), none, none] [.ref (75 + q), .ref 23] (hG τ sr ln Lc μ) rfl ?_
  refine am_lgetR (i := q) (k := 1) rfl hq (by decide) (by rw [hs]; exact ⟨_, rfl⟩) ?_
  refine am_call (y := 56) (vs := [.ref 23, .int (ln q 1)]) (rest := []) (v := (some (.int (τ 12 b)))) (h1 := (hG τ sr ln Lc μ)) rfl rfl rfl ((by rw [show (ln q 1) = nI b from h1]; exact sp_X7_heldAt_0_k (σ := τ) (μ := μ) (d + 5) b (by omega))) ?_
  refine am_g 4 45 [some (.ref 14), some (.int (nI q)), some (.ref (75 + q)), some (.ref 23), some (.int (τ 12 b)), none] [.ref (75 + q), .int (τ 12 b), .ref 23] (hG τ sr ln Lc μ) rfl ?_
  refine am_lgetR (i := q) (k := 2) rfl hq (by decide) (by rw [hs]; exact ⟨_, rfl⟩) ?_
  refine am_call (y := 61) (vs := [.ref 23, .int (τ 12 b), .int (ln q 2)]) (rest := []) (v := (some (.int (am_orF (am_okF (τ 1) (am_kf τ false) (τ 12 b) (ln q 2)) 16)))) (h1 := (hG τ sr ln Lc μ)) rfl rfl rfl (sp_X7_partUnder_0 (σ := τ) (μ := μ) (d + 3) hab _ _ hk) ?_
  refine am_g 4 (if (am_orF (am_okF (τ 1) (am_kf τ false) (τ 12 b) (ln q 2)) 16) = (τ 12 b) then 60 else 62) [some (.ref 14), some (.int (nI q)), some (.ref (75 + q)), some (.ref 23), some (.int (τ 12 b)), some (.int (am_orF (am_okF (τ 1) (am_kf τ false) (τ 12 b) (ln q 2)) 16))] [] (hG τ sr ln Lc μ) rfl (am_brR (fun c1 => ?_) (fun c1 => ?_))
  · skip
    refine am_g 1 61 [some (.ref 14), some (.int (nI q)), some (.ref (75 + q)), some (.ref 23), some (.int (τ 12 b)), some (.int (am_orF (am_okF (τ 1) (am_kf τ false) (τ 12 b) (ln q 2)) 16))] [.int 0] (hG τ sr ln Lc μ) rfl ?_
    exact am_ret2 rfl rfl rfl (by rw [if_pos c1]) rfl
  · skip
    refine am_g 2 (if (am_orF (am_okF (τ 1) (am_kf τ false) (τ 12 b) (ln q 2)) 16) = 0 then 71 else 67) [some (.ref 14), some (.int (nI q)), some (.ref (75 + q)), some (.ref 23), some (.int (τ 12 b)), some (.int (am_orF (am_okF (τ 1) (am_kf τ false) (τ 12 b) (ln q 2)) 16))] [] (hG τ sr ln Lc μ) rfl (am_brR (fun c2 => ?_) (fun c2 => ?_))
    · skip
      refine am_g 1 72 [some (.ref 14), some (.int (nI q)), some (.ref (75 + q)), some (.ref 23), some (.int (τ 12 b)), some (.int (am_orF (am_okF (τ 1) (am_kf τ false) (τ 12 b) (ln q 2)) 16))] [.int 2] (hG τ sr ln Lc μ) rfl ?_
      exact am_ret2 rfl rfl rfl (by rw [if_neg c1, if_pos c2]) rfl
    · skip
      refine am_g 2 72 [some (.ref 14), some (.int (nI q)), some (.ref (75 + q)), some (.ref 23), some (.int (τ 12 b)), some (.int (am_orF (am_okF (τ 1) (am_kf τ false) (τ 12 b) (ln q 2)) 16))] [.int 1] (hG τ sr ln Lc μ) rfl ?_
      exact am_ret2 rfl rfl rfl (by rw [if_neg c1, if_neg c2]) rfl
def pu_aiS (kf ab ow : Nat → Int32) (m : Int32) (n o : Nat) (a : Int32) : Int32 := bif am_hb m o then (if am_aimF ab ow n 9 (kf o) = -1 then a else a ||| 1 <<< (am_aimF ab ow n 9 (kf o) &&& 31)) else a
theorem sp_X11_aimsOf (d : Nat) (q : Nat) (hq : q < Lc) (hs : sr q = 4) {b : Nat} (hb : b < 20) (h1 : ln q 1 = nI b) {n : Nat} (hn3 : n < 3) (hn : ln q 2 = nI n) (hab : am_wab (τ 1)) (hk : ∀ p, p < 16 → am_hb (τ 12 b) p = true → am_pl 8 (am_kf τ false p)) : am_X xs LL (d + 4) 135 [.ref (75 + q), .ref 23] (hG τ sr ln Lc μ) (some (.int (am_it (pu_aiS (am_kf τ false) (τ 1) (τ 2) (τ 12 b) n) 0 16))) (hG τ sr ln Lc μ) := by
  refine am_XR (d := d + 3) (C := cd_X11_aimsOf) (L := [some (.ref (75 + q)), some (.ref 23), none, none, none, none]) rfl rfl rfl rfl ?_
  refine am_g 2 2 [some (.ref (75 + q)), some (.ref 23), none, none, none, none] [.ref (75 + q), .ref 23] (hG τ sr ln Lc μ) rfl ?_
  refine am_lgetR (i := q) (k := 1) rfl hq (by decide) (by rw [hs]; exact ⟨_, rfl⟩) ?_
  refine am_call (y := 56) (vs := [.ref 23, .int (ln q 1)]) (rest := []) (v := (some (.int (τ 12 b)))) (h1 := (hG τ sr ln Lc μ)) rfl rfl rfl ((by rw [show (ln q 1) = nI b from h1]; exact sp_X7_heldAt_0_k (σ := τ) (μ := μ) (d + 2) b (by omega))) ?_
  refine am_g 5 14 [some (.ref (75 + q)), some (.ref 23), some (.int (τ 12 b)), some (.int 0), some (.int 0), none] [] (hG τ sr ln Lc μ) rfl ?_
  have lp : ∀ (r o : Nat) (w : Option Value), o + r = 16 → am_R xs LL cd_X11_aimsOf (am_X xs LL (d + 3)) 14 [some (.ref (75 + q)), some (.ref 23), some (.int (τ 12 b)), some (.int (am_it (pu_aiS (am_kf τ false) (τ 1) (τ 2) (τ 12 b) n) 0 o)), some (.int (nI o)), w] [] (hG τ sr ln Lc μ) (some (.int (am_it (pu_aiS (am_kf τ false) (τ 1) (τ 2) (τ 12 b) n) 0 16))) (hG τ sr ln Lc μ) := by
    intro r
    induction r with
    | zero =>
      intro o w hi
      have hi2 : o = 16 := by omega
      rw [hi2]
      refine am_g 3 (if 16 ≤ (nI 16) then 65 else 21) [some (.ref (75 + q)), some (.ref 23), some (.int (τ 12 b)), some (.int (am_it (pu_aiS (am_kf τ false) (τ 1) (τ 2) (τ 12 b) n) 0 16)), some (.int (nI 16)), w] [] (hG τ sr ln Lc μ) rfl ?_
      rw [if_pos (show 16 ≤ (nI 16) from (am_dle (a := 16) (b := 16) (rfl) (rfl) (by omega) (by omega) (by omega)))]
      refine am_g 1 66 [some (.ref (75 + q)), some (.ref 23), some (.int (τ 12 b)), some (.int (am_it (pu_aiS (am_kf τ false) (τ 1) (τ 2) (τ 12 b) n) 0 16)), some (.int (nI 16)), w] [.int (am_it (pu_aiS (am_kf τ false) (τ 1) (τ 2) (τ 12 b) n) 0 16)] (hG τ sr ln Lc μ) rfl ?_
      exact am_ret2 rfl rfl rfl rfl rfl
    | succ r ih =>
      intro o w hi
      have hi2 : o < 16 := by omega
      refine am_g 3 (if 16 ≤ (nI o) then 65 else 21) [some (.ref (75 + q)), some (.ref 23), some (.int (τ 12 b)), some (.int (am_it (pu_aiS (am_kf τ false) (τ 1) (τ 2) (τ 12 b) n) 0 o)), some (.int (nI o)), w] [] (hG τ sr ln Lc μ) rfl ?_
      rw [if_neg (show ¬ 16 ≤ (nI o) from (am_dnle (a := 16) (b := o) (rfl) (rfl) (by omega) (by omega) (by omega)))]
      refine am_g 2 24 [some (.ref (75 + q)), some (.ref 23), some (.int (τ 12 b)), some (.int (am_it (pu_aiS (am_kf τ false) (τ 1) (τ 2) (τ 12 b) n) 0 o)), some (.int (nI o)), w] [.int (nI o), .int (τ 12 b)] (hG τ sr ln Lc μ) rfl ?_
      cases e1 : am_hb (τ 12 b) o with
      | false =>
        refine am_call (y := 126) (vs := [.int (τ 12 b), .int (nI o)]) (rest := []) (v := (some (.int 0))) (h1 := (hG τ sr ln Lc μ)) rfl rfl rfl (sp_X11_hasBit (d + 2) _ _ _ e1) ?_
        refine am_g 8 14 [some (.ref (75 + q)), some (.ref 23), some (.int (τ 12 b)), some (.int (am_it (pu_aiS (am_kf τ false) (τ 1) (τ 2) (τ 12 b) n) 0 o)), some (.int ((nI o) + 1)), some (.int (-1))] [] (hG τ sr ln Lc μ) rfl ?_
        rw [nI_up, ← (show am_it (pu_aiS (am_kf τ false) (τ 1) (τ 2) (τ 12 b) n) 0 (o + 1) = (am_it (pu_aiS (am_kf τ false) (τ 1) (τ 2) (τ 12 b) n) 0 o) from (by rw [am_itS]; unfold pu_aiS; rw [e1]; rfl))]
        exact ih (o + 1) _ (by omega)
      | true =>
        refine am_call (y := 126) (vs := [.int (τ 12 b), .int (nI o)]) (rest := []) (v := (some (.int 1))) (h1 := (hG τ sr ln Lc μ)) rfl rfl rfl (sp_X11_hasBit (d + 2) _ _ _ e1) ?_
        refine am_g 4 34 [some (.ref (75 + q)), some (.ref 23), some (.int (τ 12 b)), some (.int (am_it (pu_aiS (am_kf τ false) (τ 1) (τ 2) (τ 12 b) n) 0 o)), some (.int (nI o)), w] [.ref (75 + q), .int (nI o), .ref 23] (hG τ sr ln Lc μ) rfl ?_
        refine am_lgetR (i := q) (k := 2) rfl hq (by decide) (by rw [hs]; exact ⟨_, rfl⟩) ?_
        refine am_call (y := 60) (vs := [.ref 23, .int (nI o), .int (ln q 2)]) (rest := []) (v := (some (.int (am_aimF (τ 1) (τ 2) n 9 (am_kf τ false o))))) (h1 := (hG τ sr ln Lc μ)) rfl rfl rfl (sp_X7_aimOfPoint_v0 (σ := τ) (μ := μ) d hab o n _ hn (by omega) hn3 (hk o (by omega) e1)) ?_
        refine am_g 5 (if (am_aimF (τ 1) (τ 2) n 9 (am_kf τ false o)) = (-1) then 59 else 52) [some (.ref (75 + q)), some (.ref 23), some (.int (τ 12 b)), some (.int (am_it (pu_aiS (am_kf τ false) (τ 1) (τ 2) (τ 12 b) n) 0 o)), some (.int (nI o)), some (.int (am_aimF (τ 1) (τ 2) n 9 (am_kf τ false o)))] [] (hG τ sr ln Lc μ) rfl (am_brR (fun c2 => ?_) (fun c2 => ?_))
        · skip
          refine am_g 2 14 [some (.ref (75 + q)), some (.ref 23), some (.int (τ 12 b)), some (.int (am_it (pu_aiS (am_kf τ false) (τ 1) (τ 2) (τ 12 b) n) 0 o)), some (.int ((nI o) + 1)), some (.int (am_aimF (τ 1) (τ 2) n 9 (am_kf τ false o)))] [] (hG τ sr ln Lc μ) rfl ?_
          rw [nI_up, ← (show am_it (pu_aiS (am_kf τ false) (τ 1) (τ 2) (τ 12 b) n) 0 (o + 1) = (am_it (pu_aiS (am_kf τ false) (τ 1) (τ 2) (τ 12 b) n) 0 o) from (by rw [am_itS]; unfold pu_aiS; rw [e1, cond_true, if_pos c2]))]
          exact ih (o + 1) _ (by omega)
        · skip
          refine am_g 8 14 [some (.ref (75 + q)), some (.ref 23), some (.int (τ 12 b)), some (.int ((am_it (pu_aiS (am_kf τ false) (τ 1) (τ 2) (τ 12 b) n) 0 o) ||| (1 <<< ((am_aimF (τ 1) (τ 2) n 9 (am_kf τ false o)) &&& 31)))), some (.int ((nI o) + 1)), some (.int (am_aimF (τ 1) (τ 2) n 9 (am_kf τ false o)))] [] (hG τ sr ln Lc μ) rfl ?_
          rw [nI_up, ← (show am_it (pu_aiS (am_kf τ false) (τ 1) (τ 2) (τ 12 b) n) 0 (o + 1) = ((am_it (pu_aiS (am_kf τ false) (τ 1) (τ 2) (τ 12 b) n) 0 o) ||| (1 <<< ((am_aimF (τ 1) (τ 2) n 9 (am_kf τ false o)) &&& 31))) from (by rw [am_itS]; unfold pu_aiS; rw [e1, cond_true, if_neg c2]))]
          exact ih (o + 1) _ (by omega)
  exact lp 16 0 none (by omega)
theorem sp_X11_aims_ok (d : Nat) (q : Nat) (hq : q < Lc) (hL : Lc ≤ 40) (hs : sr q = 4) {b : Nat} (hb : b < 20) (h1 : ln q 1 = nI b) {n : Nat} (hn3 : n < 3) (hn : ln q 2 = nI n) (hab : am_wab (τ 1)) (hk : ∀ p, p < 16 → am_hb (τ 12 b) p = true → am_pl 8 (am_kf τ false p)) (hf : ∀ d, am_X xs LL (d + 6) 52 [.ref 23] (hG σ sr ln Lc μ) (some (.ref 23)) (hG τ sr ln Lc μ)) : am_X xs LL (d + 7) 106 [.ref 14, .int (nI q)] (hG σ sr ln Lc μ) (some (.int (am_it (pu_aiS (am_kf τ false) (τ 1) (τ 2) (τ 12 b) n) 0 16))) (hG τ sr ln Lc μ) := by
  refine am_XR (d := d + 6) (C := cd_X11_aims) (L := [some (.ref 14), some (.int (nI q)), none]) rfl rfl rfl rfl ?_
  refine am_g 2 2 [some (.ref 14), some (.int (nI q)), none] [.int (nI q), .ref 14] (hG σ sr ln Lc μ) rfl ?_
  refine am_call (y := 128) (vs := [.ref 14, .int (nI q)]) (rest := []) (v := (some (.ref (75 + q)))) (h1 := (hG σ sr ln Lc μ)) rfl rfl rfl (sp_X11_lineAt_ok (σ := σ) (μ := μ) (d + 5) q hq hL) ?_
  refine am_g 2 7 [some (.ref 14), some (.int (nI q)), some (.ref (75 + q))] [.ref (75 + q)] (hG σ sr ln Lc μ) rfl ?_
  refine am_lnn2R rfl _ ?_
  refine am_g 1 14 [some (.ref 14), some (.int (nI q)), some (.ref (75 + q))] [.ref (75 + q)] (hG σ sr ln Lc μ) rfl ?_
  refine am_linsR (i := q) (b := true) rfl hq (by rw [hs]; rfl) ?_
  refine am_g 4 28 [some (.ref 14), some (.int (nI q)), some (.ref (75 + q))] [.ref 23, .ref (75 + q)] (hG σ sr ln Lc μ) rfl ?_
  refine am_call (y := 52) (vs := [.ref 23]) (rest := [.ref (75 + q)]) (v := (some (.ref 23))) (h1 := (hG τ sr ln Lc μ)) rfl rfl rfl (hf d) ?_
  refine am_call (y := 135) (vs := [.ref (75 + q), .ref 23]) (rest := []) (v := (some (.int (am_it (pu_aiS (am_kf τ false) (τ 1) (τ 2) (τ 12 b) n) 0 16)))) (h1 := (hG τ sr ln Lc μ)) rfl rfl rfl (sp_X11_aimsOf (d + 2) q hq hs hb h1 hn3 hn hab hk) ?_
  exact am_ret2 rfl rfl rfl rfl rfl
def pu_aiV (kf ab ow W f : Nat → Int32) : Int32 := am_it (pu_aiS kf ab ow (am_hat W (f 1)) (f 2).toNatClampNeg) 0 16
def pu_deS (kf ab ow W : Nat → Int32) (sr : Nat → Nat) (ln : Nat → Nat → Int32) (Lc : Nat) (i : Nat) (a : Int32) : Int32 := if i < Lc then (if sr i = 4 then (if ln i 6 = 0 then a else a ||| pu_aiV kf ab ow W (ln i)) else a) else a
theorem pu_ins4 {s : Nat} (hs : s < 6) : [false, false, false, false, true, false].getD s false = decide (s = 4) := by
  match s, hs with
  | 0, _ => rfl
  | 1, _ => rfl
  | 2, _ => rfl
  | 3, _ => rfl
  | 4, _ => rfl
  | 5, _ => rfl
theorem sp_X11_aimsOf_v (d i : Nat) (hi : i < Lc) (hs : sr i = 4) (hw : am_wl (sr i) (ln i)) (hab : am_wab (τ 1)) (hok : am_okW (am_kf τ false) (τ 12)) : am_X xs LL (d + 4) 135 [.ref (75 + i), .ref 23] (hG τ sr ln Lc μ) (some (.int (pu_aiV (am_kf τ false) (τ 1) (τ 2) (τ 12) (ln i)))) (hG τ sr ln Lc μ) := by
  obtain ⟨-, h1, hb, -, hn, -⟩ := hw
  obtain ⟨b, hb, e1⟩ := hb (by rw [hs]; decide)
  obtain ⟨n, hn3, e2⟩ := hn (by rw [hs]; decide) (by rw [hs]; decide)
  unfold pu_aiV
  have hk := hok (nI b) (am_pl_nI (by omega))
  rw [am_hat_nI (by omega)] at hk
  rw [e1, e2, am_hat_nI (by omega), nI_clamp (by omega)]
  exact sp_X11_aimsOf d i hi hs hb e1 hn3 e2 hab hk
theorem sp_X11_dead (d : Nat) (hL : Lc ≤ 40) (hsr : ∀ i, i < Lc → sr i < 6) (hwl : ∀ i, i < Lc → am_wl (sr i) (ln i)) (hab : am_wab (τ 1)) (hok : am_okW (am_kf τ false) (τ 12)) (hf : ∀ d, am_X xs LL (d + 6) 52 [.ref 23] (hG σ sr ln Lc μ) (some (.ref 23)) (hG τ sr ln Lc μ)) : am_X xs LL (d + 7) 107 [.ref 14] (hG σ sr ln Lc μ) (some (.int (63 &&& ((am_it (pu_deS (am_kf τ false) (τ 1) (τ 2) (τ 12) sr ln Lc) 0 40) ^^^ (-1))))) (hG τ sr ln Lc μ) := by
  refine am_XR (d := d + 6) (C := cd_X11_dead) (L := [some (.ref 14), none, none, none, none, none, none]) rfl rfl rfl rfl ?_
  refine am_g 2 4 [some (.ref 14), none, none, none, none, none, none] [.ref 23] (hG σ sr ln Lc μ) rfl ?_
  refine am_call (y := 52) (vs := [.ref 23]) (rest := []) (v := (some (.ref 23))) (h1 := (hG τ sr ln Lc μ)) rfl rfl rfl (hf d) ?_
  refine am_g 11 22 [some (.ref 14), some (.ref 23), some (.int 0), some (.ref 22), some (.int 40), some (.int 0), none] [] (hG τ sr ln Lc μ) rfl ?_
  have lp : ∀ (r i : Nat) (w : Option Value), i + r = 40 → am_R xs LL cd_X11_dead (am_X xs LL (d + 6)) 22 [some (.ref 14), some (.ref 23), some (.int (am_it (pu_deS (am_kf τ false) (τ 1) (τ 2) (τ 12) sr ln Lc) 0 i)), some (.ref 22), some (.int 40), some (.int (nI i)), w] [] (hG τ sr ln Lc μ) (some (.int (63 &&& ((am_it (pu_deS (am_kf τ false) (τ 1) (τ 2) (τ 12) sr ln Lc) 0 40) ^^^ (-1))))) (hG τ sr ln Lc μ) := by
    intro r
    induction r with
    | zero =>
      intro i w hi
      have hi2 : i = 40 := by omega
      rw [hi2]
      refine am_g 3 (if 40 ≤ (nI 40) then 66 else 29) [some (.ref 14), some (.ref 23), some (.int (am_it (pu_deS (am_kf τ false) (τ 1) (τ 2) (τ 12) sr ln Lc) 0 40)), some (.ref 22), some (.int 40), some (.int (nI 40)), w] [] (hG τ sr ln Lc μ) rfl ?_
      rw [if_pos (show 40 ≤ (nI 40) from (am_dle (a := 40) (b := 40) (rfl) (rfl) (by omega) (by omega) (by omega)))]
      refine am_g 5 72 [some (.ref 14), some (.ref 23), some (.int (am_it (pu_deS (am_kf τ false) (τ 1) (τ 2) (τ 12) sr ln Lc) 0 40)), some (.ref 22), some (.int 40), some (.int (nI 40)), w] [.int (63 &&& ((am_it (pu_deS (am_kf τ false) (τ 1) (τ 2) (τ 12) sr ln Lc) 0 40) ^^^ (-1)))] (hG τ sr ln Lc μ) rfl ?_
      exact am_ret2 rfl rfl rfl rfl rfl
    | succ r ih =>
      intro i w hi
      have hi2 : i < 40 := by omega
      by_cases hL2 : i < Lc
      · skip
        refine am_g 3 (if 40 ≤ (nI i) then 66 else 29) [some (.ref 14), some (.ref 23), some (.int (am_it (pu_deS (am_kf τ false) (τ 1) (τ 2) (τ 12) sr ln Lc) 0 i)), some (.ref 22), some (.int 40), some (.int (nI i)), w] [] (hG τ sr ln Lc μ) rfl ?_
        rw [if_neg (show ¬ 40 ≤ (nI i) from (am_dnle (a := 40) (b := i) (rfl) (rfl) (by omega) (by omega) (by omega)))]
        refine am_g 2 32 [some (.ref 14), some (.ref 23), some (.int (am_it (pu_deS (am_kf τ false) (τ 1) (τ 2) (τ 12) sr ln Lc) 0 i)), some (.ref 22), some (.int 40), some (.int (nI i)), w] [.int (nI i), .ref 22] (hG τ sr ln Lc μ) rfl ?_
        refine am_laldR (k := i) rfl (rfl) (hL2) (by omega) ?_
        refine am_g 2 37 [some (.ref 14), some (.ref 23), some (.int (am_it (pu_deS (am_kf τ false) (τ 1) (τ 2) (τ 12) sr ln Lc) 0 i)), some (.ref 22), some (.int 40), some (.int (nI i)), some (.ref (75 + i))] [.ref (75 + i)] (hG τ sr ln Lc μ) rfl ?_
        refine am_linsR (i := i) (b := [false, false, false, false, true, false].getD (sr i) false) rfl hL2 (am_lk (f := fun s => bif [false, false, false, false, true, false].getD s false then 1 else 0) (by decide) (hsr _ hL2)) ?_
        cases e1 : [false, false, false, false, true, false].getD (sr i) false with
        | false =>
          refine am_g 3 22 [some (.ref 14), some (.ref 23), some (.int (am_it (pu_deS (am_kf τ false) (τ 1) (τ 2) (τ 12) sr ln Lc) 0 i)), some (.ref 22), some (.int 40), some (.int ((nI i) + 1)), some (.ref (75 + i))] [] (hG τ sr ln Lc μ) rfl ?_
          have qq : am_it (pu_deS (am_kf τ false) (τ 1) (τ 2) (τ 12) sr ln Lc) 0 (i + 1) = (am_it (pu_deS (am_kf τ false) (τ 1) (τ 2) (τ 12) sr ln Lc) 0 i) := by
            rw [am_itS]
            have e5 := e1; rw [pu_ins4 (hsr i hL2)] at e5
            exact (if_pos hL2).trans (if_neg (of_decide_eq_false e5))
          rw [nI_up, ← qq]
          exact ih (i + 1) _ (by omega)
        | true =>
          refine am_g 2 45 [some (.ref 14), some (.ref 23), some (.int (am_it (pu_deS (am_kf τ false) (τ 1) (τ 2) (τ 12) sr ln Lc) 0 i)), some (.ref 22), some (.int 40), some (.int (nI i)), some (.ref (75 + i))] [.ref (75 + i)] (hG τ sr ln Lc μ) rfl ?_
          refine am_lgetR (i := i) (k := 6) rfl hL2 (by decide) (am_lkx (by decide) (hsr _ hL2)) ?_
          refine am_g 1 (if (ln i 6) = 0 then 60 else 51) [some (.ref 14), some (.ref 23), some (.int (am_it (pu_deS (am_kf τ false) (τ 1) (τ 2) (τ 12) sr ln Lc) 0 i)), some (.ref 22), some (.int 40), some (.int (nI i)), some (.ref (75 + i))] [] (hG τ sr ln Lc μ) rfl (am_brR (fun c2 => ?_) (fun c2 => ?_))
          · skip
            refine am_g 2 22 [some (.ref 14), some (.ref 23), some (.int (am_it (pu_deS (am_kf τ false) (τ 1) (τ 2) (τ 12) sr ln Lc) 0 i)), some (.ref 22), some (.int 40), some (.int ((nI i) + 1)), some (.ref (75 + i))] [] (hG τ sr ln Lc μ) rfl ?_
            have qq : am_it (pu_deS (am_kf τ false) (τ 1) (τ 2) (τ 12) sr ln Lc) 0 (i + 1) = (am_it (pu_deS (am_kf τ false) (τ 1) (τ 2) (τ 12) sr ln Lc) 0 i) := by
              rw [am_itS]
              have e5 := e1; rw [pu_ins4 (hsr i hL2)] at e5
              exact (if_pos hL2).trans ((if_pos (of_decide_eq_true e5)).trans (if_pos c2))
            rw [nI_up, ← qq]
            exact ih (i + 1) _ (by omega)
          · skip
            have e4 : sr i = 4 := of_decide_eq_true ((pu_ins4 (hsr i hL2)).symm.trans e1)
            refine am_g 3 55 [some (.ref 14), some (.ref 23), some (.int (am_it (pu_deS (am_kf τ false) (τ 1) (τ 2) (τ 12) sr ln Lc) 0 i)), some (.ref 22), some (.int 40), some (.int (nI i)), some (.ref (75 + i))] [.ref 23, .ref (75 + i), .int (am_it (pu_deS (am_kf τ false) (τ 1) (τ 2) (τ 12) sr ln Lc) 0 i)] (hG τ sr ln Lc μ) rfl ?_
            refine am_call (y := 135) (vs := [.ref (75 + i), .ref 23]) (rest := [.int (am_it (pu_deS (am_kf τ false) (τ 1) (τ 2) (τ 12) sr ln Lc) 0 i)]) (v := (some (.int (pu_aiV (am_kf τ false) (τ 1) (τ 2) (τ 12) (ln i))))) (h1 := (hG τ sr ln Lc μ)) rfl rfl rfl (sp_X11_aimsOf_v (d + 2) i hL2 e4 (hwl i hL2) hab hok) ?_
            refine am_g 4 22 [some (.ref 14), some (.ref 23), some (.int ((am_it (pu_deS (am_kf τ false) (τ 1) (τ 2) (τ 12) sr ln Lc) 0 i) ||| (pu_aiV (am_kf τ false) (τ 1) (τ 2) (τ 12) (ln i)))), some (.ref 22), some (.int 40), some (.int ((nI i) + 1)), some (.ref (75 + i))] [] (hG τ sr ln Lc μ) rfl ?_
            have qq : am_it (pu_deS (am_kf τ false) (τ 1) (τ 2) (τ 12) sr ln Lc) 0 (i + 1) = ((am_it (pu_deS (am_kf τ false) (τ 1) (τ 2) (τ 12) sr ln Lc) 0 i) ||| (pu_aiV (am_kf τ false) (τ 1) (τ 2) (τ 12) (ln i))) := by
              rw [am_itS]
              exact (if_pos hL2).trans ((if_pos e4).trans (if_neg c2))
            rw [nI_up, ← qq]
            exact ih (i + 1) _ (by omega)
      · skip
        refine am_g 3 (if 40 ≤ (nI i) then 66 else 29) [some (.ref 14), some (.ref 23), some (.int (am_it (pu_deS (am_kf τ false) (τ 1) (τ 2) (τ 12) sr ln Lc) 0 i)), some (.ref 22), some (.int 40), some (.int (nI i)), w] [] (hG τ sr ln Lc μ) rfl ?_
        rw [if_neg (show ¬ 40 ≤ (nI i) from (am_dnle (a := 40) (b := i) (rfl) (rfl) (by omega) (by omega) (by omega)))]
        refine am_g 2 32 [some (.ref 14), some (.ref 23), some (.int (am_it (pu_deS (am_kf τ false) (τ 1) (τ 2) (τ 12) sr ln Lc) 0 i)), some (.ref 22), some (.int 40), some (.int (nI i)), w] [.int (nI i), .ref 22] (hG τ sr ln Lc μ) rfl ?_
        refine am_laldN (k := i) rfl (rfl) (hL2) (by omega) ?_
        refine am_g 6 22 [some (.ref 14), some (.ref 23), some (.int (am_it (pu_deS (am_kf τ false) (τ 1) (τ 2) (τ 12) sr ln Lc) 0 i)), some (.ref 22), some (.int 40), some (.int ((nI i) + 1)), some (.null)] [] (hG τ sr ln Lc μ) rfl ?_
        have qq : am_it (pu_deS (am_kf τ false) (τ 1) (τ 2) (τ 12) sr ln Lc) 0 (i + 1) = (am_it (pu_deS (am_kf τ false) (τ 1) (τ 2) (τ 12) sr ln Lc) 0 i) := by
          rw [am_itS]
          exact if_neg hL2
        rw [nI_up, ← qq]
        exact ih (i + 1) _ (by omega)
  exact lp 40 0 none (by omega)
end XH
