/-! the reference: kinds -/
def am_wab (ab : Nat → Int32) : Prop := ∀ k, k < 8 → ab k = -1 ∨ ∃ j, j < k ∧ ab k = nI j
/-- the function that a kind has for an act, or the next above it has -/
def am_aimF (ab ow : Nat → Int32) (a : Nat) : Nat → Int32 → Int32
  | 0, _ => -1
  | f + 1, k => if k = -1 then -1 else if ow (3 * k.toNatClampNeg + a) = -1 then am_aimF ab ow a f (ab k.toNatClampNeg) else ow (3 * k.toNatClampNeg + a)
def am_undF (ab : Nat → Int32) (o : Int32) : Nat → Int32 → Bool
  | 0, _ => false
  | f + 1, k => if k = -1 then false else if k = o then true else am_undF ab o f (ab k.toNatClampNeg)
theorem nI_ne {a b : Nat} (h : a ≠ b) (ha : a < 2 ^ 31) (hb : b < 2 ^ 31) : ¬ nI a = nI b := fun q => h ((nI_eq ha hb).mp q)
theorem nI_m1 {k : Nat} (h : k < 2 ^ 31) : ¬ nI k = -1 := fun e => by
  have := congrArg Int32.toInt e
  rw [nI_toInt h] at this
  exact absurd this (by rw [show (-1 : Int32).toInt = -1 by decide]; omega)
theorem am_aimF_no {ab ow : Nat → Int32} {a f : Nat} : am_aimF ab ow a f (-1) = -1 := by
  cases f with
  | zero => rfl
  | succ f => unfold am_aimF; rw [if_pos rfl]
theorem am_aimF_up {ab ow : Nat → Int32} {a f k : Nat} (hk : k < 2 ^ 31) (h : ow (3 * k + a) = -1) : am_aimF ab ow a (f + 1) (nI k) = am_aimF ab ow a f (ab k) := by
  show (if nI k = -1 then -1 else if ow (3 * (nI k).toNatClampNeg + a) = -1 then am_aimF ab ow a f (ab (nI k).toNatClampNeg) else ow (3 * (nI k).toNatClampNeg + a)) = _
  rw [if_neg (nI_m1 hk), nI_clamp hk, if_pos h]
theorem am_aimF_at {ab ow : Nat → Int32} {a f k : Nat} (hk : k < 2 ^ 31) (h : ¬ ow (3 * k + a) = -1) : am_aimF ab ow a (f + 1) (nI k) = ow (3 * k + a) := by
  show (if nI k = -1 then -1 else if ow (3 * (nI k).toNatClampNeg + a) = -1 then am_aimF ab ow a f (ab (nI k).toNatClampNeg) else ow (3 * (nI k).toNatClampNeg + a)) = _
  rw [if_neg (nI_m1 hk), nI_clamp hk, if_neg h]
theorem am_undF_no {ab : Nat → Int32} {o : Int32} {f : Nat} : am_undF ab o f (-1) = false := by
  cases f with
  | zero => rfl
  | succ f => unfold am_undF; rw [if_pos rfl]
theorem am_undF_up {ab : Nat → Int32} {o : Int32} {f k : Nat} (hk : k < 2 ^ 31) (h : ¬ nI k = o) : am_undF ab o (f + 1) (nI k) = am_undF ab o f (ab k) := by
  show (if nI k = -1 then false else if nI k = o then true else am_undF ab o f (ab (nI k).toNatClampNeg)) = _
  rw [if_neg (nI_m1 hk), if_neg h, nI_clamp hk]
theorem am_undF_at {ab : Nat → Int32} {o : Int32} {f k : Nat} (hk : k < 2 ^ 31) (h : nI k = o) : am_undF ab o (f + 1) (nI k) = true := by
  show (if nI k = -1 then false else if nI k = o then true else am_undF ab o f (ab (nI k).toNatClampNeg)) = _
  rw [if_neg (nI_m1 hk), if_pos h]
section MK
variable {xs : Nat → Int32} {LL : Nat} {σ μ : Nat → Nat → Int32} {sr : Nat → Nat} {ln : Nat → Nat → Int32} {Lc : Nat}
theorem sp_X12_kind_bad (d : Nat) {K : Nat} (hK : μ 3 0 = nI K) (hK8 : K ≤ 8) (o : Int32) (h1 : ¬ o = -1) (h2 : am_in o K = false) : am_X xs LL (d + 3) 145 [.ref 47, .int o] (hG σ sr ln Lc μ) (some (.int (-2))) (hG σ sr ln Lc μ) := by
  refine am_XR (d := d + 2) (C := cd_X12_kind) (L := [some (.ref 47), some (.int o)]) rfl rfl rfl rfl ?_
  refine am_g 3 (if o = (-1) then 16 else 5) [some (.ref 47), some (.int o)] [] (hG σ sr ln Lc μ) rfl ?_
  rw [if_neg (show ¬ o = (-1) from h1)]
  refine am_g 2 7 [some (.ref 47), some (.int o)] [.int o, .ref 47] (hG σ sr ln Lc μ) rfl ?_
  refine am_call (y := 142) (vs := [.ref 47, .int o]) (rest := []) (v := (some (.int 0))) (h1 := (hG σ sr ln Lc μ)) rfl rfl rfl (sp_X12_isKind (σ := σ) (μ := μ) d _ hK (by omega) h2) ?_
  refine am_g 2 15 [some (.ref 47), some (.int o)] [.int (-2)] (hG σ sr ln Lc μ) rfl ?_
  exact am_ret2 rfl rfl rfl rfl rfl
theorem sp_X12_kind_full (d : Nat) {K : Nat} (hK : μ 3 0 = nI K) (hK8 : K ≤ 8) (o : Int32) (ho : o = -1 ∨ am_in o K = true) (h8 : K = 8) : am_X xs LL (d + 3) 145 [.ref 47, .int o] (hG σ sr ln Lc μ) (some (.int (-4))) (hG σ sr ln Lc μ) := by
  refine am_XR (d := d + 2) (C := cd_X12_kind) (L := [some (.ref 47), some (.int o)]) rfl rfl rfl rfl ?_
  by_cases hm : o = -1
  · skip
    refine am_g 3 (if o = (-1) then 16 else 5) [some (.ref 47), some (.int o)] [] (hG σ sr ln Lc μ) rfl ?_
    rw [if_pos (show o = (-1) from hm)]
    refine am_g 4 (if (μ 3 0) = 8 then 25 else 28) [some (.ref 47), some (.int o)] [] (hG σ sr ln Lc μ) rfl ?_
    rw [if_pos (show (μ 3 0) = 8 from (by rw [hK, h8]; rfl))]
    refine am_g 1 27 [some (.ref 47), some (.int o)] [.int (-4)] (hG σ sr ln Lc μ) rfl ?_
    exact am_ret2 rfl rfl rfl rfl rfl
  · have h2 := ho.resolve_left hm
    refine am_g 3 (if o = (-1) then 16 else 5) [some (.ref 47), some (.int o)] [] (hG σ sr ln Lc μ) rfl ?_
    rw [if_neg (show ¬ o = (-1) from hm)]
    refine am_g 2 7 [some (.ref 47), some (.int o)] [.int o, .ref 47] (hG σ sr ln Lc μ) rfl ?_
    refine am_call (y := 142) (vs := [.ref 47, .int o]) (rest := []) (v := (some (.int 1))) (h1 := (hG σ sr ln Lc μ)) rfl rfl rfl (sp_X12_isKind (σ := σ) (μ := μ) d _ hK (by omega) h2) ?_
    refine am_g 5 (if (μ 3 0) = 8 then 25 else 28) [some (.ref 47), some (.int o)] [] (hG σ sr ln Lc μ) rfl ?_
    rw [if_pos (show (μ 3 0) = 8 from (by rw [hK, h8]; rfl))]
    refine am_g 1 27 [some (.ref 47), some (.int o)] [.int (-4)] (hG σ sr ln Lc μ) rfl ?_
    exact am_ret2 rfl rfl rfl rfl rfl
theorem sp_X12_kind_ok (d : Nat) {K : Nat} (hK : μ 3 0 = nI K) (hK8 : K ≤ 8) (o : Int32) (ho : o = -1 ∨ am_in o K = true) (h8 : K < 8) : am_X xs LL (d + 3) 145 [.ref 47, .int o] (hG σ sr ln Lc μ) (some (.int (nI K))) (hG σ sr ln Lc (am_us (am_up μ 1 (upd (μ 1) K o)) 3 (μ 3 0 + 1))) := by
  refine am_XR (d := d + 2) (C := cd_X12_kind) (L := [some (.ref 47), some (.int o)]) rfl rfl rfl rfl ?_
  by_cases hm : o = -1
  · skip
    refine am_g 3 (if o = (-1) then 16 else 5) [some (.ref 47), some (.int o)] [] (hG σ sr ln Lc μ) rfl ?_
    rw [if_pos (show o = (-1) from hm)]
    refine am_g 4 (if (μ 3 0) = 8 then 25 else 28) [some (.ref 47), some (.int o)] [] (hG σ sr ln Lc μ) rfl ?_
    rw [if_neg (show ¬ (μ 3 0) = 8 from (fun q => nI_ne (a := K) (b := 8) (by omega) (by omega) (by omega) (hK.symm.trans q)))]
    refine am_g 5 37 [some (.ref 47), some (.int o)] [.int o, .int (μ 3 0), .ref 48] (hG σ sr ln Lc μ) rfl ?_
    refine am_iastR (n := 8) (f := (μ 1)) (k := K) (h1 := (hG σ sr ln Lc (am_up μ 1 (upd (μ 1) K o)))) rfl rfl (hK) (by omega) (by decide) rfl ?_
    refine am_g 10 54 [some (.ref 47), some (.int o)] [.int (((μ 3 0) + 1) - 1)] (hG σ sr ln Lc (am_us (am_up μ 1 (upd (μ 1) K o)) 3 ((μ 3 0) + 1))) rfl ?_
    exact am_ret2 rfl rfl rfl (by rw [hK, nI_1, nI_pred]) rfl
  · have h2 := ho.resolve_left hm
    refine am_g 3 (if o = (-1) then 16 else 5) [some (.ref 47), some (.int o)] [] (hG σ sr ln Lc μ) rfl ?_
    rw [if_neg (show ¬ o = (-1) from hm)]
    refine am_g 2 7 [some (.ref 47), some (.int o)] [.int o, .ref 47] (hG σ sr ln Lc μ) rfl ?_
    refine am_call (y := 142) (vs := [.ref 47, .int o]) (rest := []) (v := (some (.int 1))) (h1 := (hG σ sr ln Lc μ)) rfl rfl rfl (sp_X12_isKind (σ := σ) (μ := μ) d _ hK (by omega) h2) ?_
    refine am_g 5 (if (μ 3 0) = 8 then 25 else 28) [some (.ref 47), some (.int o)] [] (hG σ sr ln Lc μ) rfl ?_
    rw [if_neg (show ¬ (μ 3 0) = 8 from (fun q => nI_ne (a := K) (b := 8) (by omega) (by omega) (by omega) (hK.symm.trans q)))]
    refine am_g 5 37 [some (.ref 47), some (.int o)] [.int o, .int (μ 3 0), .ref 48] (hG σ sr ln Lc μ) rfl ?_
    refine am_iastR (n := 8) (f := (μ 1)) (k := K) (h1 := (hG σ sr ln Lc (am_up μ 1 (upd (μ 1) K o)))) rfl rfl (hK) (by omega) (by decide) rfl ?_
    refine am_g 10 54 [some (.ref 47), some (.int o)] [.int (((μ 3 0) + 1) - 1)] (hG σ sr ln Lc (am_us (am_up μ 1 (upd (μ 1) K o)) 3 ((μ 3 0) + 1))) rfl ?_
    exact am_ret2 rfl rfl rfl (by rw [hK, nI_1, nI_pred]) rfl
theorem sp_X12_has_ok (d : Nat) {K : Nat} (hK : μ 3 0 = nI K) (hK8 : K ≤ 8) (k a : Nat) (fn : Int32) (hk : k < K) (ha : a < 3) (hf : am_in1 fn 6 = true) : am_X xs LL (d + 3) 146 [.ref 47, .int (nI k), .int (nI a), .int fn] (hG σ sr ln Lc μ) (some (.int (μ 2 (3 * k + a)))) (hG σ sr ln Lc (am_up μ 2 (upd (μ 2) (3 * k + a) fn))) := by
  refine am_XR (d := d + 2) (C := cd_X12_has) (L := [some (.ref 47), some (.int (nI k)), some (.int (nI a)), some (.int fn), none]) rfl rfl rfl rfl ?_
  refine am_g 2 2 [some (.ref 47), some (.int (nI k)), some (.int (nI a)), some (.int fn), none] [.int (nI k), .ref 47] (hG σ sr ln Lc μ) rfl ?_
  refine am_call (y := 142) (vs := [.ref 47, .int (nI k)]) (rest := []) (v := (some (.int 1))) (h1 := (hG σ sr ln Lc μ)) rfl rfl rfl (sp_X12_isKind (σ := σ) (μ := μ) d _ hK (by omega) (am_in_of_nI hk (by omega))) ?_
  refine am_g 2 9 [some (.ref 47), some (.int (nI k)), some (.int (nI a)), some (.int fn), none] [.int (nI a)] (hG σ sr ln Lc μ) rfl ?_
  refine am_call (y := 144) (vs := [.int (nI a)]) (rest := []) (v := (some (.int 1))) (h1 := (hG σ sr ln Lc μ)) rfl rfl rfl (sp_X12_isAct d _ _ (am_in_of_nI ha (by omega))) ?_
  refine am_g 5 23 [some (.ref 47), some (.int (nI k)), some (.int (nI a)), some (.int fn), none] [.long 5, .long (-1), .long (fn.toInt64)] (hG σ sr ln Lc μ) rfl ?_
  refine am_call (y := 140) (vs := [.long (fn.toInt64), .long (-1), .long 5]) (rest := []) (v := (some (.int 1))) (h1 := (hG σ sr ln Lc μ)) rfl rfl rfl (sp_X12_in_b (d + 1) _ _ _ _ ((am_in1c (by decide)).trans hf)) ?_
  refine am_g 8 41 [some (.ref 47), some (.int (nI k)), some (.int (nI a)), some (.int fn), none] [.int ((3 * (nI k)) + (nI a)), .ref 49] (hG σ sr ln Lc μ) rfl ?_
  refine am_ialdR (n := 24) (f := (μ 2)) (k := ((3 * k) + a)) rfl rfl (show (((nI 3) * (nI k)) + (nI a)) = nI ((3 * k) + a) from by simp only [nI_mul2, nI_add]) (by omega) (by decide) ?_
  refine am_g 9 54 [some (.ref 47), some (.int (nI k)), some (.int (nI a)), some (.int fn), some (.int (μ 2 ((3 * k) + a)))] [.int fn, .int ((3 * (nI k)) + (nI a)), .ref 49] (hG σ sr ln Lc μ) rfl ?_
  refine am_iastR (n := 24) (f := (μ 2)) (k := ((3 * k) + a)) (h1 := (hG σ sr ln Lc (am_up μ 2 (upd (μ 2) ((3 * k) + a) fn)))) rfl rfl (show (((nI 3) * (nI k)) + (nI a)) = nI ((3 * k) + a) from by simp only [nI_mul2, nI_add]) (by omega) (by decide) rfl ?_
  refine am_g 1 57 [some (.ref 47), some (.int (nI k)), some (.int (nI a)), some (.int fn), some (.int (μ 2 ((3 * k) + a)))] [.int (μ 2 ((3 * k) + a))] (hG σ sr ln Lc (am_up μ 2 (upd (μ 2) ((3 * k) + a) fn))) rfl ?_
  exact am_ret2 rfl rfl rfl rfl rfl
theorem sp_X12_has_bad (d : Nat) {K : Nat} (hK : μ 3 0 = nI K) (hK8 : K ≤ 8) (k a fn : Int32) (hbad : (am_in k K && (am_in a 3 && am_in1 fn 6)) = false) : am_X xs LL (d + 3) 146 [.ref 47, .int k, .int a, .int fn] (hG σ sr ln Lc μ) (some (.int (-5))) (hG σ sr ln Lc μ) := by
  refine am_XR (d := d + 2) (C := cd_X12_has) (L := [some (.ref 47), some (.int k), some (.int a), some (.int fn), none]) rfl rfl rfl rfl ?_
  refine am_g 2 2 [some (.ref 47), some (.int k), some (.int a), some (.int fn), none] [.int k, .ref 47] (hG σ sr ln Lc μ) rfl ?_
  cases e1 : am_in k K with
  | false =>
    refine am_call (y := 142) (vs := [.ref 47, .int k]) (rest := []) (v := (some (.int 0))) (h1 := (hG σ sr ln Lc μ)) rfl rfl rfl (sp_X12_isKind (σ := σ) (μ := μ) d _ hK (by omega) e1) ?_
    refine am_g 2 31 [some (.ref 47), some (.int k), some (.int a), some (.int fn), none] [.int (-5)] (hG σ sr ln Lc μ) rfl ?_
    exact am_ret2 rfl rfl rfl rfl rfl
  | true =>
    refine am_call (y := 142) (vs := [.ref 47, .int k]) (rest := []) (v := (some (.int 1))) (h1 := (hG σ sr ln Lc μ)) rfl rfl rfl (sp_X12_isKind (σ := σ) (μ := μ) d _ hK (by omega) e1) ?_
    refine am_g 2 9 [some (.ref 47), some (.int k), some (.int a), some (.int fn), none] [.int a] (hG σ sr ln Lc μ) rfl ?_
    cases e2 : am_in a 3 with
    | false =>
      refine am_call (y := 144) (vs := [.int a]) (rest := []) (v := (some (.int 0))) (h1 := (hG σ sr ln Lc μ)) rfl rfl rfl (sp_X12_isAct d _ _ e2) ?_
      refine am_g 2 31 [some (.ref 47), some (.int k), some (.int a), some (.int fn), none] [.int (-5)] (hG σ sr ln Lc μ) rfl ?_
      exact am_ret2 rfl rfl rfl rfl rfl
    | true =>
      refine am_call (y := 144) (vs := [.int a]) (rest := []) (v := (some (.int 1))) (h1 := (hG σ sr ln Lc μ)) rfl rfl rfl (sp_X12_isAct d _ _ e2) ?_
      refine am_g 5 23 [some (.ref 47), some (.int k), some (.int a), some (.int fn), none] [.long 5, .long (-1), .long (fn.toInt64)] (hG σ sr ln Lc μ) rfl ?_
      cases e3 : decide ((-1) ≤ (fn.toInt64) ∧ (fn.toInt64) ≤ 5) with
      | false =>
        refine am_call (y := 140) (vs := [.long (fn.toInt64), .long (-1), .long 5]) (rest := []) (v := (some (.int 0))) (h1 := (hG σ sr ln Lc μ)) rfl rfl rfl (sp_X12_in_b (d + 1) _ _ _ _ e3) ?_
        refine am_g 2 31 [some (.ref 47), some (.int k), some (.int a), some (.int fn), none] [.int (-5)] (hG σ sr ln Lc μ) rfl ?_
        exact am_ret2 rfl rfl rfl rfl rfl
      | true =>
        refine am_call (y := 140) (vs := [.long (fn.toInt64), .long (-1), .long 5]) (rest := []) (v := (some (.int 1))) (h1 := (hG σ sr ln Lc μ)) rfl rfl rfl (sp_X12_in_b (d + 1) _ _ _ _ e3) ?_
        refine am_g 1 32 [some (.ref 47), some (.int k), some (.int a), some (.int fn), none] [] (hG σ sr ln Lc μ) rfl ?_
        rw [am_in1c (n := 6) (by decide)] at e3
        rw [e1, e2, e3] at hbad
        cases hbad
theorem sp_X12_aimOf (d : Nat) (hab : am_wab (μ 1)) (kk : Int32) (a : Nat) (hk : kk = -1 ∨ ∃ j, j < 8 ∧ kk = nI j) (ha : a < 3) : am_X xs LL (d + 1) 147 [.ref 47, .int kk, .int (nI a)] (hG σ sr ln Lc μ) (some (.int (am_aimF (μ 1) (μ 2) a 9 kk))) (hG σ sr ln Lc μ) := by
  refine am_XR (d := d + 0) (C := cd_X12_aimOf) (L := [some (.ref 47), some (.int kk), some (.int (nI a)), none]) rfl rfl rfl rfl ?_
  refine am_g 2 2 [some (.ref 47), some (.int kk), some (.int (nI a)), some (.int kk)] [] (hG σ sr ln Lc μ) rfl ?_
  have lp : ∀ (f : Nat) (k : Int32), (k = -1 ∨ ∃ j, j < f ∧ j < 8 ∧ k = nI j) → am_R xs LL cd_X12_aimOf (am_X xs LL (d + 0)) 2 [some (.ref 47), some (.int kk), some (.int (nI a)), some (.int k)] [] (hG σ sr ln Lc μ) (some (.int (am_aimF (μ 1) (μ 2) a f k))) (hG σ sr ln Lc μ) := by
    intro f
    induction f with
    | zero =>
      intro k hk
      rcases hk with rfl | ⟨j, h1, -, -⟩
      · skip
        refine am_g 8 50 [some (.ref 47), some (.int kk), some (.int (nI a)), some (.int (-1))] [.int (-1)] (hG σ sr ln Lc μ) rfl ?_
        exact am_ret2 rfl rfl rfl (by rw [am_aimF_no]) rfl
      · exact absurd h1 (Nat.not_lt_zero _)
    | succ f ih =>
      intro k hk
      rcases hk with rfl | ⟨j, h1, h8, rfl⟩
      · skip
        refine am_g 8 50 [some (.ref 47), some (.int kk), some (.int (nI a)), some (.int (-1))] [.int (-1)] (hG σ sr ln Lc μ) rfl ?_
        exact am_ret2 rfl rfl rfl (by rw [am_aimF_no]) rfl
      · skip
        refine am_g 3 (if (nI j) = (-1) then 31 else 7) [some (.ref 47), some (.int kk), some (.int (nI a)), some (.int (nI j))] [] (hG σ sr ln Lc μ) rfl ?_
        rw [if_neg (show ¬ (nI j) = (-1) from (nI_m1 (by omega)))]
        refine am_g 7 16 [some (.ref 47), some (.int kk), some (.int (nI a)), some (.int (nI j))] [.int ((3 * (nI j)) + (nI a)), .ref 49] (hG σ sr ln Lc μ) rfl ?_
        refine am_ialdR (n := 24) (f := (μ 2)) (k := ((3 * j) + a)) rfl rfl (show (((nI 3) * (nI j)) + (nI a)) = nI ((3 * j) + a) from by simp only [nI_mul2, nI_add]) (by omega) (by decide) ?_
        refine am_g 2 (if (μ 2 ((3 * j) + a)) = (-1) then 21 else 31) [some (.ref 47), some (.int kk), some (.int (nI a)), some (.int (nI j))] [] (hG σ sr ln Lc μ) rfl (am_brR (fun c1 => ?_) (fun c1 => ?_))
        · skip
          refine am_g 3 26 [some (.ref 47), some (.int kk), some (.int (nI a)), some (.int (nI j))] [.int (nI j), .ref 48] (hG σ sr ln Lc μ) rfl ?_
          refine am_ialdR (n := 8) (f := (μ 1)) (k := j) rfl rfl (rfl) (by omega) (by decide) ?_
          refine am_g 2 2 [some (.ref 47), some (.int kk), some (.int (nI a)), some (.int (μ 1 j))] [] (hG σ sr ln Lc μ) rfl ?_
          rw [am_aimF_up (by omega) c1]
          exact ih _ ((hab j h8).imp id (fun ⟨i, h2, h3⟩ => ⟨i, by omega, by omega, h3⟩))
        · skip
          refine am_g 3 (if (nI j) = (-1) then 36 else 40) [some (.ref 47), some (.int kk), some (.int (nI a)), some (.int (nI j))] [] (hG σ sr ln Lc μ) rfl ?_
          rw [if_neg (show ¬ (nI j) = (-1) from (nI_m1 (by omega)))]
          refine am_g 7 49 [some (.ref 47), some (.int kk), some (.int (nI a)), some (.int (nI j))] [.int ((3 * (nI j)) + (nI a)), .ref 49] (hG σ sr ln Lc μ) rfl ?_
          refine am_ialdR (n := 24) (f := (μ 2)) (k := ((3 * j) + a)) rfl rfl (show (((nI 3) * (nI j)) + (nI a)) = nI ((3 * j) + a) from by simp only [nI_mul2, nI_add]) (by omega) (by decide) ?_
          exact am_ret2 rfl rfl rfl (by rw [am_aimF_at (by omega) c1]) rfl
  exact lp 9 kk (hk.imp id (fun ⟨j, h1, h2⟩ => ⟨j, by omega, h1, h2⟩))
theorem sp_X12_aim_ok (d : Nat) {K : Nat} (hK : μ 3 0 = nI K) (hK8 : K ≤ 8) (hab : am_wab (μ 1)) (k a : Nat) (hk : k < K) (ha : a < 3) : am_X xs LL (d + 3) 148 [.ref 47, .int (nI k), .int (nI a)] (hG σ sr ln Lc μ) (some (.int (am_aimF (μ 1) (μ 2) a 9 (nI k)))) (hG σ sr ln Lc μ) := by
  refine am_XR (d := d + 2) (C := cd_X12_aim) (L := [some (.ref 47), some (.int (nI k)), some (.int (nI a))]) rfl rfl rfl rfl ?_
  refine am_g 2 2 [some (.ref 47), some (.int (nI k)), some (.int (nI a))] [.int (nI k), .ref 47] (hG σ sr ln Lc μ) rfl ?_
  refine am_call (y := 142) (vs := [.ref 47, .int (nI k)]) (rest := []) (v := (some (.int 1))) (h1 := (hG σ sr ln Lc μ)) rfl rfl rfl (sp_X12_isKind (σ := σ) (μ := μ) d _ hK (by omega) (am_in_of_nI hk (by omega))) ?_
  refine am_g 2 9 [some (.ref 47), some (.int (nI k)), some (.int (nI a))] [.int (nI a)] (hG σ sr ln Lc μ) rfl ?_
  refine am_call (y := 144) (vs := [.int (nI a)]) (rest := []) (v := (some (.int 1))) (h1 := (hG σ sr ln Lc μ)) rfl rfl rfl (sp_X12_isAct d _ _ (am_in_of_nI ha (by omega))) ?_
  refine am_g 4 18 [some (.ref 47), some (.int (nI k)), some (.int (nI a))] [.int (nI a), .int (nI k), .ref 47] (hG σ sr ln Lc μ) rfl ?_
  refine am_call (y := 147) (vs := [.ref 47, .int (nI k), .int (nI a)]) (rest := []) (v := (some (.int (am_aimF (μ 1) (μ 2) a 9 (nI k))))) (h1 := (hG σ sr ln Lc μ)) rfl rfl rfl (sp_X12_aimOf (σ := σ) (μ := μ) (d + 1) hab _ _ (Or.inr ⟨k, by omega, rfl⟩) (ha)) ?_
  refine am_g 1 26 [some (.ref 47), some (.int (nI k)), some (.int (nI a))] [.int (am_aimF (μ 1) (μ 2) a 9 (nI k))] (hG σ sr ln Lc μ) rfl ?_
  exact am_ret2 rfl rfl rfl rfl rfl
theorem sp_X12_aim_bad (d : Nat) {K : Nat} (hK : μ 3 0 = nI K) (hK8 : K ≤ 8) (k a : Int32) (hbad : (am_in k K && am_in a 3) = false) : am_X xs LL (d + 3) 148 [.ref 47, .int k, .int a] (hG σ sr ln Lc μ) (some (.int (-2))) (hG σ sr ln Lc μ) := by
  refine am_XR (d := d + 2) (C := cd_X12_aim) (L := [some (.ref 47), some (.int k), some (.int a)]) rfl rfl rfl rfl ?_
  refine am_g 2 2 [some (.ref 47), some (.int k), some (.int a)] [.int k, .ref 47] (hG σ sr ln Lc μ) rfl ?_
  cases e1 : am_in k K with
  | false =>
    refine am_call (y := 142) (vs := [.ref 47, .int k]) (rest := []) (v := (some (.int 0))) (h1 := (hG σ sr ln Lc μ)) rfl rfl rfl (sp_X12_isKind (σ := σ) (μ := μ) d _ hK (by omega) e1) ?_
    refine am_g 2 26 [some (.ref 47), some (.int k), some (.int a)] [.int (-2)] (hG σ sr ln Lc μ) rfl ?_
    exact am_ret2 rfl rfl rfl rfl rfl
  | true =>
    refine am_call (y := 142) (vs := [.ref 47, .int k]) (rest := []) (v := (some (.int 1))) (h1 := (hG σ sr ln Lc μ)) rfl rfl rfl (sp_X12_isKind (σ := σ) (μ := μ) d _ hK (by omega) e1) ?_
    refine am_g 2 9 [some (.ref 47), some (.int k), some (.int a)] [.int a] (hG σ sr ln Lc μ) rfl ?_
    cases e2 : am_in a 3 with
    | false =>
      refine am_call (y := 144) (vs := [.int a]) (rest := []) (v := (some (.int 0))) (h1 := (hG σ sr ln Lc μ)) rfl rfl rfl (sp_X12_isAct d _ _ e2) ?_
      refine am_g 2 26 [some (.ref 47), some (.int k), some (.int a)] [.int (-2)] (hG σ sr ln Lc μ) rfl ?_
      exact am_ret2 rfl rfl rfl rfl rfl
    | true =>
      refine am_call (y := 144) (vs := [.int a]) (rest := []) (v := (some (.int 1))) (h1 := (hG σ sr ln Lc μ)) rfl rfl rfl (sp_X12_isAct d _ _ e2) ?_
      refine am_g 1 15 [some (.ref 47), some (.int k), some (.int a)] [] (hG σ sr ln Lc μ) rfl ?_
      rw [e1, e2] at hbad
      cases hbad
theorem sp_X12_isUnder (d : Nat) (hab : am_wab (μ 1)) (kk o : Int32) (hk : kk = -1 ∨ ∃ j, j < 8 ∧ kk = nI j) {b : Bool} (eb : am_undF (μ 1) o 9 kk = b) : am_X xs LL (d + 1) 150 [.ref 47, .int kk, .int o] (hG σ sr ln Lc μ) (some (.int (am_b2 b))) (hG σ sr ln Lc μ) := by
  refine am_XR (d := d + 0) (C := cd_X12_isUnder) (L := [some (.ref 47), some (.int kk), some (.int o), none]) rfl rfl rfl rfl ?_
  refine am_g 2 2 [some (.ref 47), some (.int kk), some (.int o), some (.int kk)] [] (hG σ sr ln Lc μ) rfl ?_
  have lp : ∀ (f : Nat) (k : Int32), (k = -1 ∨ ∃ j, j < f ∧ j < 8 ∧ k = nI j) → am_R xs LL cd_X12_isUnder (am_X xs LL (d + 0)) 2 [some (.ref 47), some (.int kk), some (.int o), some (.int k)] [] (hG σ sr ln Lc μ) (some (.int (am_b2 (am_undF (μ 1) o f k)))) (hG σ sr ln Lc μ) := by
    intro f
    induction f with
    | zero =>
      intro k hk
      rcases hk with rfl | ⟨j, h1, -, -⟩
      · skip
        refine am_g 7 32 [some (.ref 47), some (.int kk), some (.int o), some (.int (-1))] [.int 0] (hG σ sr ln Lc μ) rfl ?_
        exact am_ret2 rfl rfl rfl (by rw [am_undF_no]; rfl) rfl
      · exact absurd h1 (Nat.not_lt_zero _)
    | succ f ih =>
      intro k hk
      rcases hk with rfl | ⟨j, h1, h8, rfl⟩
      · skip
        refine am_g 7 32 [some (.ref 47), some (.int kk), some (.int o), some (.int (-1))] [.int 0] (hG σ sr ln Lc μ) rfl ?_
        exact am_ret2 rfl rfl rfl (by rw [am_undF_no]; rfl) rfl
      · skip
        refine am_g 3 (if (nI j) = (-1) then 22 else 7) [some (.ref 47), some (.int kk), some (.int o), some (.int (nI j))] [] (hG σ sr ln Lc μ) rfl ?_
        rw [if_neg (show ¬ (nI j) = (-1) from (nI_m1 (by omega)))]
        refine am_g 3 (if (nI j) = o then 22 else 12) [some (.ref 47), some (.int kk), some (.int o), some (.int (nI j))] [] (hG σ sr ln Lc μ) rfl (am_brR (fun c1 => ?_) (fun c1 => ?_))
        · skip
          refine am_g 3 (if (nI j) = (-1) then 31 else 27) [some (.ref 47), some (.int kk), some (.int o), some (.int (nI j))] [] (hG σ sr ln Lc μ) rfl ?_
          rw [if_neg (show ¬ (nI j) = (-1) from (nI_m1 (by omega)))]
          refine am_g 2 32 [some (.ref 47), some (.int kk), some (.int o), some (.int (nI j))] [.int 1] (hG σ sr ln Lc μ) rfl ?_
          exact am_ret2 rfl rfl rfl (by rw [am_undF_at (by omega) c1]; rfl) rfl
        · skip
          refine am_g 3 17 [some (.ref 47), some (.int kk), some (.int o), some (.int (nI j))] [.int (nI j), .ref 48] (hG σ sr ln Lc μ) rfl ?_
          refine am_ialdR (n := 8) (f := (μ 1)) (k := j) rfl rfl (rfl) (by omega) (by decide) ?_
          refine am_g 2 2 [some (.ref 47), some (.int kk), some (.int o), some (.int (μ 1 j))] [] (hG σ sr ln Lc μ) rfl ?_
          rw [am_undF_up (by omega) c1]
          exact ih _ ((hab j h8).imp id (fun ⟨i, h2, h3⟩ => ⟨i, by omega, by omega, h3⟩))
  rw [← eb]
  exact lp 9 kk (hk.imp id (fun ⟨j, h1, h2⟩ => ⟨j, by omega, h1, h2⟩))
theorem sp_X12_under_ok (d : Nat) {K : Nat} (hK : μ 3 0 = nI K) (hK8 : K ≤ 8) (hab : am_wab (μ 1)) (k o : Nat) (hk : k < K) (ho : o < K) : am_X xs LL (d + 3) 151 [.ref 47, .int (nI k), .int (nI o)] (hG σ sr ln Lc μ) (some (.int (am_b2 (am_undF (μ 1) (nI o) 9 (nI k))))) (hG σ sr ln Lc μ) := by
  refine am_XR (d := d + 2) (C := cd_X12_under) (L := [some (.ref 47), some (.int (nI k)), some (.int (nI o))]) rfl rfl rfl rfl ?_
  refine am_g 2 2 [some (.ref 47), some (.int (nI k)), some (.int (nI o))] [.int (nI k), .ref 47] (hG σ sr ln Lc μ) rfl ?_
  refine am_call (y := 142) (vs := [.ref 47, .int (nI k)]) (rest := []) (v := (some (.int 1))) (h1 := (hG σ sr ln Lc μ)) rfl rfl rfl (sp_X12_isKind (σ := σ) (μ := μ) d _ hK (by omega) (am_in_of_nI hk (by omega))) ?_
  refine am_g 3 10 [some (.ref 47), some (.int (nI k)), some (.int (nI o))] [.int (nI o), .ref 47] (hG σ sr ln Lc μ) rfl ?_
  refine am_call (y := 142) (vs := [.ref 47, .int (nI o)]) (rest := []) (v := (some (.int 1))) (h1 := (hG σ sr ln Lc μ)) rfl rfl rfl (sp_X12_isKind (σ := σ) (μ := μ) d _ hK (by omega) (am_in_of_nI ho (by omega))) ?_
  refine am_g 4 19 [some (.ref 47), some (.int (nI k)), some (.int (nI o))] [.int (nI o), .int (nI k), .ref 47] (hG σ sr ln Lc μ) rfl ?_
  cases e1 : am_undF (μ 1) (nI o) 9 (nI k) with
  | false =>
    refine am_call (y := 150) (vs := [.ref 47, .int (nI k), .int (nI o)]) (rest := []) (v := (some (.int 0))) (h1 := (hG σ sr ln Lc μ)) rfl rfl rfl (sp_X12_isUnder (σ := σ) (μ := μ) (d + 1) hab _ _ (Or.inr ⟨k, by omega, rfl⟩) e1) ?_
    refine am_g 3 35 [some (.ref 47), some (.int (nI k)), some (.int (nI o))] [.int 0] (hG σ sr ln Lc μ) rfl ?_
    exact am_ret2 rfl rfl rfl rfl rfl
  | true =>
    refine am_call (y := 150) (vs := [.ref 47, .int (nI k), .int (nI o)]) (rest := []) (v := (some (.int 1))) (h1 := (hG σ sr ln Lc μ)) rfl rfl rfl (sp_X12_isUnder (σ := σ) (μ := μ) (d + 1) hab _ _ (Or.inr ⟨k, by omega, rfl⟩) e1) ?_
    refine am_g 3 35 [some (.ref 47), some (.int (nI k)), some (.int (nI o))] [.int 1] (hG σ sr ln Lc μ) rfl ?_
    exact am_ret2 rfl rfl rfl rfl rfl
theorem sp_X12_under_bad (d : Nat) {K : Nat} (hK : μ 3 0 = nI K) (hK8 : K ≤ 8) (k o : Int32) (hbad : (am_in k K && am_in o K) = false) : am_X xs LL (d + 3) 151 [.ref 47, .int k, .int o] (hG σ sr ln Lc μ) (some (.int (-2))) (hG σ sr ln Lc μ) := by
  refine am_XR (d := d + 2) (C := cd_X12_under) (L := [some (.ref 47), some (.int k), some (.int o)]) rfl rfl rfl rfl ?_
  refine am_g 2 2 [some (.ref 47), some (.int k), some (.int o)] [.int k, .ref 47] (hG σ sr ln Lc μ) rfl ?_
  cases e1 : am_in k K with
  | false =>
    refine am_call (y := 142) (vs := [.ref 47, .int k]) (rest := []) (v := (some (.int 0))) (h1 := (hG σ sr ln Lc μ)) rfl rfl rfl (sp_X12_isKind (σ := σ) (μ := μ) d _ hK (by omega) e1) ?_
    refine am_g 2 35 [some (.ref 47), some (.int k), some (.int o)] [.int (-2)] (hG σ sr ln Lc μ) rfl ?_
    exact am_ret2 rfl rfl rfl rfl rfl
  | true =>
    refine am_call (y := 142) (vs := [.ref 47, .int k]) (rest := []) (v := (some (.int 1))) (h1 := (hG σ sr ln Lc μ)) rfl rfl rfl (sp_X12_isKind (σ := σ) (μ := μ) d _ hK (by omega) e1) ?_
    refine am_g 3 10 [some (.ref 47), some (.int k), some (.int o)] [.int o, .ref 47] (hG σ sr ln Lc μ) rfl ?_
    cases e2 : am_in o K with
    | false =>
      refine am_call (y := 142) (vs := [.ref 47, .int o]) (rest := []) (v := (some (.int 0))) (h1 := (hG σ sr ln Lc μ)) rfl rfl rfl (sp_X12_isKind (σ := σ) (μ := μ) d _ hK (by omega) e2) ?_
      refine am_g 2 35 [some (.ref 47), some (.int k), some (.int o)] [.int (-2)] (hG σ sr ln Lc μ) rfl ?_
      exact am_ret2 rfl rfl rfl rfl rfl
    | true =>
      refine am_call (y := 142) (vs := [.ref 47, .int o]) (rest := []) (v := (some (.int 1))) (h1 := (hG σ sr ln Lc μ)) rfl rfl rfl (sp_X12_isKind (σ := σ) (μ := μ) d _ hK (by omega) e2) ?_
      refine am_g 1 16 [some (.ref 47), some (.int k), some (.int o)] [] (hG σ sr ln Lc μ) rfl ?_
      rw [e1, e2] at hbad
      cases hbad
theorem sp_X12_names_ok (d : Nat) (f : Nat) (p q t : Int32) (hf : f < 6) (hp : am_in1 p 20 = true) (hq : am_in1 q 20 = true) (ht : am_in1 t 20 = true) : am_X xs LL (d + 2) 149 [.ref 47, .int (nI f), .int p, .int q, .int t] (hG σ sr ln Lc μ) (some (.int 1)) (hG σ sr ln Lc (am_up (am_up (am_up μ 4 (upd (μ 4) f p)) 5 (upd (μ 5) f q)) 6 (upd (μ 6) f t))) := by
  refine am_XR (d := d + 1) (C := cd_X12_names) (L := [some (.ref 47), some (.int (nI f)), some (.int p), some (.int q), some (.int t)]) rfl rfl rfl rfl ?_
  refine am_g 4 6 [some (.ref 47), some (.int (nI f)), some (.int p), some (.int q), some (.int t)] [.long 5, .long 0, .long ((nI f).toInt64)] (hG σ sr ln Lc μ) rfl ?_
  refine am_call (y := 140) (vs := [.long ((nI f).toInt64), .long 0, .long 5]) (rest := []) (v := (some (.int 1))) (h1 := (hG σ sr ln Lc μ)) rfl rfl rfl (sp_X12_in_b d _ _ _ _ ((am_in64c (by decide)).trans (am_in_of_nI hf (by omega)))) ?_
  refine am_g 5 20 [some (.ref 47), some (.int (nI f)), some (.int p), some (.int q), some (.int t)] [.long 19, .long (-1), .long (p.toInt64)] (hG σ sr ln Lc μ) rfl ?_
  refine am_call (y := 140) (vs := [.long (p.toInt64), .long (-1), .long 19]) (rest := []) (v := (some (.int 1))) (h1 := (hG σ sr ln Lc μ)) rfl rfl rfl (sp_X12_in_b d _ _ _ _ ((am_in1c (by decide)).trans hp)) ?_
  refine am_g 5 34 [some (.ref 47), some (.int (nI f)), some (.int p), some (.int q), some (.int t)] [.long 19, .long (-1), .long (q.toInt64)] (hG σ sr ln Lc μ) rfl ?_
  refine am_call (y := 140) (vs := [.long (q.toInt64), .long (-1), .long 19]) (rest := []) (v := (some (.int 1))) (h1 := (hG σ sr ln Lc μ)) rfl rfl rfl (sp_X12_in_b d _ _ _ _ ((am_in1c (by decide)).trans hq)) ?_
  refine am_g 5 49 [some (.ref 47), some (.int (nI f)), some (.int p), some (.int q), some (.int t)] [.long 19, .long (-1), .long (t.toInt64)] (hG σ sr ln Lc μ) rfl ?_
  refine am_call (y := 140) (vs := [.long (t.toInt64), .long (-1), .long 19]) (rest := []) (v := (some (.int 1))) (h1 := (hG σ sr ln Lc μ)) rfl rfl rfl (sp_X12_in_b d _ _ _ _ ((am_in1c (by decide)).trans ht)) ?_
  refine am_g 5 64 [some (.ref 47), some (.int (nI f)), some (.int p), some (.int q), some (.int t)] [.int p, .int (nI f), .ref 50] (hG σ sr ln Lc μ) rfl ?_
  refine am_iastR (n := 6) (f := (μ 4)) (k := f) (h1 := (hG σ sr ln Lc (am_up μ 4 (upd (μ 4) f p)))) rfl rfl (rfl) (by omega) (by decide) rfl ?_
  refine am_g 4 71 [some (.ref 47), some (.int (nI f)), some (.int p), some (.int q), some (.int t)] [.int q, .int (nI f), .ref 51] (hG σ sr ln Lc (am_up μ 4 (upd (μ 4) f p))) rfl ?_
  refine am_iastR (n := 6) (f := (μ 5)) (k := f) (h1 := (hG σ sr ln Lc (am_up (am_up μ 4 (upd (μ 4) f p)) 5 (upd (μ 5) f q)))) rfl rfl (rfl) (by omega) (by decide) rfl ?_
  refine am_g 4 79 [some (.ref 47), some (.int (nI f)), some (.int p), some (.int q), some (.int t)] [.int t, .int (nI f), .ref 52] (hG σ sr ln Lc (am_up (am_up μ 4 (upd (μ 4) f p)) 5 (upd (μ 5) f q))) rfl ?_
  refine am_iastR (n := 6) (f := (μ 6)) (k := f) (h1 := (hG σ sr ln Lc (am_up (am_up (am_up μ 4 (upd (μ 4) f p)) 5 (upd (μ 5) f q)) 6 (upd (μ 6) f t)))) rfl rfl (rfl) (by omega) (by decide) rfl ?_
  refine am_g 1 81 [some (.ref 47), some (.int (nI f)), some (.int p), some (.int q), some (.int t)] [.int 1] (hG σ sr ln Lc (am_up (am_up (am_up μ 4 (upd (μ 4) f p)) 5 (upd (μ 5) f q)) 6 (upd (μ 6) f t))) rfl ?_
  exact am_ret2 rfl rfl rfl rfl rfl
theorem sp_X12_names_bad (d : Nat) (f p q t : Int32) (hbad : (am_in f 6 && (am_in1 p 20 && (am_in1 q 20 && am_in1 t 20))) = false) : am_X xs LL (d + 2) 149 [.ref 47, .int f, .int p, .int q, .int t] (hG σ sr ln Lc μ) (some (.int (-2))) (hG σ sr ln Lc μ) := by
  refine am_XR (d := d + 1) (C := cd_X12_names) (L := [some (.ref 47), some (.int f), some (.int p), some (.int q), some (.int t)]) rfl rfl rfl rfl ?_
  refine am_g 4 6 [some (.ref 47), some (.int f), some (.int p), some (.int q), some (.int t)] [.long 5, .long 0, .long (f.toInt64)] (hG σ sr ln Lc μ) rfl ?_
  cases e1 : decide (0 ≤ (f.toInt64) ∧ (f.toInt64) ≤ 5) with
  | false =>
    refine am_call (y := 140) (vs := [.long (f.toInt64), .long 0, .long 5]) (rest := []) (v := (some (.int 0))) (h1 := (hG σ sr ln Lc μ)) rfl rfl rfl (sp_X12_in_b d _ _ _ _ e1) ?_
    refine am_g 2 57 [some (.ref 47), some (.int f), some (.int p), some (.int q), some (.int t)] [.int (-2)] (hG σ sr ln Lc μ) rfl ?_
    exact am_ret2 rfl rfl rfl rfl rfl
  | true =>
    refine am_call (y := 140) (vs := [.long (f.toInt64), .long 0, .long 5]) (rest := []) (v := (some (.int 1))) (h1 := (hG σ sr ln Lc μ)) rfl rfl rfl (sp_X12_in_b d _ _ _ _ e1) ?_
    refine am_g 5 20 [some (.ref 47), some (.int f), some (.int p), some (.int q), some (.int t)] [.long 19, .long (-1), .long (p.toInt64)] (hG σ sr ln Lc μ) rfl ?_
    cases e2 : decide ((-1) ≤ (p.toInt64) ∧ (p.toInt64) ≤ 19) with
    | false =>
      refine am_call (y := 140) (vs := [.long (p.toInt64), .long (-1), .long 19]) (rest := []) (v := (some (.int 0))) (h1 := (hG σ sr ln Lc μ)) rfl rfl rfl (sp_X12_in_b d _ _ _ _ e2) ?_
      refine am_g 2 57 [some (.ref 47), some (.int f), some (.int p), some (.int q), some (.int t)] [.int (-2)] (hG σ sr ln Lc μ) rfl ?_
      exact am_ret2 rfl rfl rfl rfl rfl
    | true =>
      refine am_call (y := 140) (vs := [.long (p.toInt64), .long (-1), .long 19]) (rest := []) (v := (some (.int 1))) (h1 := (hG σ sr ln Lc μ)) rfl rfl rfl (sp_X12_in_b d _ _ _ _ e2) ?_
      refine am_g 5 34 [some (.ref 47), some (.int f), some (.int p), some (.int q), some (.int t)] [.long 19, .long (-1), .long (q.toInt64)] (hG σ sr ln Lc μ) rfl ?_
      cases e3 : decide ((-1) ≤ (q.toInt64) ∧ (q.toInt64) ≤ 19) with
      | false =>
        refine am_call (y := 140) (vs := [.long (q.toInt64), .long (-1), .long 19]) (rest := []) (v := (some (.int 0))) (h1 := (hG σ sr ln Lc μ)) rfl rfl rfl (sp_X12_in_b d _ _ _ _ e3) ?_
        refine am_g 2 57 [some (.ref 47), some (.int f), some (.int p), some (.int q), some (.int t)] [.int (-2)] (hG σ sr ln Lc μ) rfl ?_
        exact am_ret2 rfl rfl rfl rfl rfl
      | true =>
        refine am_call (y := 140) (vs := [.long (q.toInt64), .long (-1), .long 19]) (rest := []) (v := (some (.int 1))) (h1 := (hG σ sr ln Lc μ)) rfl rfl rfl (sp_X12_in_b d _ _ _ _ e3) ?_
        refine am_g 5 49 [some (.ref 47), some (.int f), some (.int p), some (.int q), some (.int t)] [.long 19, .long (-1), .long (t.toInt64)] (hG σ sr ln Lc μ) rfl ?_
        cases e4 : decide ((-1) ≤ (t.toInt64) ∧ (t.toInt64) ≤ 19) with
        | false =>
          refine am_call (y := 140) (vs := [.long (t.toInt64), .long (-1), .long 19]) (rest := []) (v := (some (.int 0))) (h1 := (hG σ sr ln Lc μ)) rfl rfl rfl (sp_X12_in_b d _ _ _ _ e4) ?_
          refine am_g 2 57 [some (.ref 47), some (.int f), some (.int p), some (.int q), some (.int t)] [.int (-2)] (hG σ sr ln Lc μ) rfl ?_
          exact am_ret2 rfl rfl rfl rfl rfl
        | true =>
          refine am_call (y := 140) (vs := [.long (t.toInt64), .long (-1), .long 19]) (rest := []) (v := (some (.int 1))) (h1 := (hG σ sr ln Lc μ)) rfl rfl rfl (sp_X12_in_b d _ _ _ _ e4) ?_
          refine am_g 1 58 [some (.ref 47), some (.int f), some (.int p), some (.int q), some (.int t)] [] (hG σ sr ln Lc μ) rfl ?_
          rw [am_in64c (n := 6) (by decide)] at e1
          rw [am_in1c (n := 20) (by decide)] at e2 e3 e4
          rw [e1, e2, e3, e4] at hbad
          cases hbad
end MK
