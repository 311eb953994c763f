/-! the lowest bit; same, tooMuch -/
theorem pu_dec {w k : Nat} (hw : w < 2 ^ 31) (h1 : w.testBit k = true) (h0 : ∀ i, i < k → w.testBit i = false) : ∀ i, (w - 1).testBit i = if i < k then true else if i = k then false else w.testBit i := by
  have e : w % 2 ^ (k + 1) = 2 ^ k := by
    apply Nat.eq_of_testBit_eq
    intro i
    rw [Nat.testBit_mod_two_pow, Nat.testBit_two_pow]
    by_cases h : i < k
    · rw [decide_eq_true (by omega), h0 i h, decide_eq_false (by omega)]; rfl
    · by_cases h2 : i = k
      · subst h2; rw [decide_eq_true (by omega), h1, decide_eq_true rfl]; rfl
      · rw [decide_eq_false (by omega), decide_eq_false (by omega)]; rfl
  have hp : 0 < 2 ^ k := Nat.two_pow_pos k
  have e2 : w = 2 ^ (k + 1) * (w / 2 ^ (k + 1)) + 2 ^ k := by
    have := Nat.div_add_mod w (2 ^ (k + 1))
    rw [e] at this
    exact this.symm
  have hlt : 2 ^ k < 2 ^ (k + 1) := Nat.pow_lt_pow_right (by decide) (by omega)
  generalize hq : w / 2 ^ (k + 1) = q at e2
  have e3 : w - 1 = 2 ^ (k + 1) * q + (2 ^ k - 1) := by omega
  intro i
  rw [e3, Nat.testBit_two_pow_mul_add q (by omega), Nat.testBit_two_pow_sub_one]
  by_cases h : i < k
  · rw [if_pos (by omega), if_pos h, decide_eq_true h]
  · rw [if_neg h]
    by_cases h2 : i = k
    · rw [if_pos (by omega), if_pos h2, decide_eq_false h]
    · rw [if_neg (by omega), if_neg h2, e2, Nat.testBit_two_pow_mul_add q hlt, if_neg (by omega)]
theorem pu_low {v : Int32} {k : Nat} (hv : pu_bd 31 v) (hk : k < 31) (h1 : bt v k = true) (h0 : ∀ i, i < k → bt v i = false) : ∀ i, i < 32 → bt (v - 1) i = if i < k then true else if i = k then false else bt v i := by
  obtain ⟨w, hw, rfl⟩ := pu_nat (by decide) hv
  intro i hi
  have h1' : w.testBit k = true := by rw [← nI_bt w (by omega)]; exact h1
  have hw0 : 1 ≤ w := by
    rcases Nat.eq_zero_or_pos w with q | q
    · subst q; rw [Nat.zero_testBit] at h1'; cases h1'
    · exact q
  rw [show nI w - 1 = nI (w - 1) from pc_sub (b := 1) hw0, nI_bt _ hi, nI_bt w hi]
  exact pu_dec hw h1' (fun j hj => by rw [← nI_bt w (by omega)]; exact h0 j hj) i
theorem pu_cn_rm {v u : Int32} {k : Nat} (h1 : bt v k = true) (h2 : bt u k = false) : ∀ n, (∀ i, i < n → i ≠ k → bt u i = bt v i) → pu_cn u n + (if k < n then 1 else 0) = pu_cn v n := by
  intro n
  induction n with
  | zero => intro _; rfl
  | succ n ih =>
    intro h
    have ih := ih (fun i hi => h i (by omega))
    show pu_cn u n + (bt u n).toNat + _ = pu_cn v n + (bt v n).toNat
    by_cases hk : n = k
    · subst hk
      rw [h1, h2, if_pos (by omega)]
      rw [if_neg (by omega)] at ih
      show _ + 0 + 1 = _ + 1
      omega
    · rw [h n (by omega) hk]
      by_cases h3 : k < n
      · rw [if_pos (by omega)]; rw [if_pos h3] at ih; omega
      · rw [if_neg (by omega)]; rw [if_neg h3] at ih; omega
theorem pu_lowest {v : Int32} {M : Nat} (hM : M ≤ 31) (hv : pu_bd M v) (h : ¬ v = 0) : ∃ k, k < M ∧ bt v k = true ∧ ∀ i, i < k → bt v i = false := by
  rcases pu_first (fun i => bt v i = false) (fun r => by cases bt v r; exact Or.inl rfl; exact Or.inr (by decide)) M with q | ⟨N, h1, h2, h3⟩
  · exfalso
    apply h
    apply b_ext
    intro i hi
    rw [b_0]
    cases e : bt v i with
    | false => rfl
    | true => have := q i (hv i hi e); rw [e] at this; cases this
  · refine ⟨N, h1, ?_, h3⟩
    cases e : bt v N with
    | true => rfl
    | false => exact absurd e h2
theorem pu_cn_pos {v : Int32} (hv : pu_bd 16 v) (h : ¬ v = 0) : pu_bd 16 (v &&& (v - 1)) ∧ pu_cn (v &&& (v - 1)) 16 + 1 = pu_cn v 16 := by
  obtain ⟨k, hk, h1, h0⟩ := pu_lowest (by decide) hv h
  have hl := pu_low (fun i hi hb => by have := hv i hi hb; omega) (by omega) h1 h0
  constructor
  · intro i hi hb
    rw [b_and, Bool.and_eq_true] at hb
    exact hv i hi hb.1
  · have e := pu_cn_rm (v := v) (u := v &&& (v - 1)) (k := k) h1 (by rw [b_and, hl k (by omega), if_neg (Nat.lt_irrefl _), if_pos rfl, Bool.and_false]) 16 (fun i hi hne => by
      rw [b_and, hl i (by omega)]
      by_cases q : i < k
      · rw [h0 i q]; rfl
      · rw [if_neg q, if_neg hne, Bool.and_self])
    rw [if_pos hk] at e
    exact e
theorem pu_cn_zero : pu_cn 0 16 = 0 := by decide
def pu_kdS (k : Nat → Int32) (m : Int32) (o : Nat) (a : Int32) : Int32 := bif am_hb m o then a ||| 1 <<< (k o &&& 31) else a
section SM
variable {xs : Nat → Int32} {LL : Nat} {σ μ τ ρ ν κ : Nat → Nat → Int32} {sr : Nat → Nat} {ln : Nat → Nat → Int32} {Lc O : Nat}
theorem sp_X12_bitsOf (d : Nat) (v : Int32) (h : am_H) (hv : pu_bd 16 v) : am_X xs LL (d + 1) 179 [.int v] h (some (.int (nI (pu_cn v 16)))) h := by
  refine am_XR (d := d + 0) (C := cd_X12_bitsOf) (L := [some (.int v), none, none]) rfl rfl rfl rfl ?_
  have lp : ∀ (c n : Nat) (u : Int32), pu_bd 16 u → pu_cn u 16 = c → am_R xs LL cd_X12_bitsOf (am_X xs LL (d + 0)) 4 [some (.int v), some (.int (nI n)), some (.int u)] [] h (some (.int (nI (n + c)))) h := by
    intro c
    induction c with
    | zero =>
      intro n u hu hc
      have h0 : u = 0 := by
        apply Classical.byContradiction
        intro q
        have := (pu_cn_pos hu q).2
        omega
      refine am_g 2 (if u = 0 then 20 else 8) [some (.int v), some (.int (nI n)), some (.int u)] [] h rfl ?_
      rw [if_pos h0]
      refine am_g 1 21 [some (.int v), some (.int (nI n)), some (.int u)] [.int (nI n)] h rfl ?_
      exact am_ret2 rfl rfl rfl rfl rfl
    | succ c ih =>
      intro n u hu hc
      have h0 : ¬ u = 0 := by
        intro q
        subst q
        rw [pu_cn_zero] at hc
        omega
      obtain ⟨h1, h2⟩ := pu_cn_pos hu h0
      refine am_g 2 (if u = 0 then 20 else 8) [some (.int v), some (.int (nI n)), some (.int u)] [] h rfl ?_
      rw [if_neg h0]
      refine am_g 8 4 [some (.int v), some (.int (nI n + 1)), some (.int (u &&& (u - 1)))] [] h rfl ?_
      rw [nI_up, show n + (c + 1) = (n + 1) + c by omega]
      exact ih (n + 1) _ h1 (by omega)
  refine am_g 4 4 [some (.int v), some (.int 0), some (.int v)] [] h rfl ?_
  have e := lp (pu_cn v 16) 0 v hv rfl
  rw [Nat.zero_add] at e
  exact e
theorem sp_X3_kindsOf (d : Nat) (m : Int32) (hO : σ 6 0 = nI O) (hO16 : O ≤ 16) : am_X xs LL (d + 2) 33 [.ref 15, .int m] (hG σ sr ln Lc μ) (some (.int (am_it (pu_kdS (σ 4) m) 0 O))) (hG σ sr ln Lc μ) := by
  refine am_XR (d := d + 1) (C := cd_X3_kindsOf) (L := [some (.ref 15), some (.int m), none, none]) rfl rfl rfl rfl ?_
  refine am_g 4 4 [some (.ref 15), some (.int m), some (.int 0), some (.int 0)] [] (hG σ sr ln Lc μ) rfl ?_
  have lp : ∀ (r o : Nat), o + r = O → am_R xs LL cd_X3_kindsOf (am_X xs LL (d + 1)) 4 [some (.ref 15), some (.int m), some (.int (am_it (pu_kdS (σ 4) m) 0 o)), some (.int (nI o))] [] (hG σ sr ln Lc μ) (some (.int (am_it (pu_kdS (σ 4) m) 0 O))) (hG σ sr ln Lc μ) := by
    intro r
    induction r with
    | zero =>
      intro o  hi
      have hi2 : o = O := by omega
      rw [hi2]
      refine am_g 3 9 [some (.ref 15), some (.int m), some (.int (am_it (pu_kdS (σ 4) m) 0 O)), some (.int (nI O))] [.int (σ 6 0), .int (nI O)] (hG σ sr ln Lc μ) rfl ?_
      rw [show (σ 6 0) = (nI O) from hO]
      refine am_g 1 (if (nI O) ≤ (nI O) then 36 else 12) [some (.ref 15), some (.int m), some (.int (am_it (pu_kdS (σ 4) m) 0 O)), some (.int (nI O))] [] (hG σ sr ln Lc μ) rfl ?_
      rw [if_pos (show (nI O) ≤ (nI O) from (am_dle (a := O) (b := O) (rfl) (rfl) (by omega) (by omega) (by omega)))]
      refine am_g 1 37 [some (.ref 15), some (.int m), some (.int (am_it (pu_kdS (σ 4) m) 0 O)), some (.int (nI O))] [.int (am_it (pu_kdS (σ 4) m) 0 O)] (hG σ sr ln Lc μ) rfl ?_
      exact am_ret2 rfl rfl rfl rfl rfl
    | succ r ih =>
      intro o  hi
      have hi2 : o < O := by omega
      refine am_g 3 9 [some (.ref 15), some (.int m), some (.int (am_it (pu_kdS (σ 4) m) 0 o)), some (.int (nI o))] [.int (σ 6 0), .int (nI o)] (hG σ sr ln Lc μ) rfl ?_
      rw [show (σ 6 0) = (nI O) from hO]
      refine am_g 1 (if (nI O) ≤ (nI o) then 36 else 12) [some (.ref 15), some (.int m), some (.int (am_it (pu_kdS (σ 4) m) 0 o)), some (.int (nI o))] [] (hG σ sr ln Lc μ) rfl ?_
      rw [if_neg (show ¬ (nI O) ≤ (nI o) from (am_dnle (a := O) (b := o) (rfl) (rfl) (by omega) (by omega) (by omega)))]
      refine am_g 2 14 [some (.ref 15), some (.int m), some (.int (am_it (pu_kdS (σ 4) m) 0 o)), some (.int (nI o))] [.int (nI o), .int m] (hG σ sr ln Lc μ) rfl ?_
      cases e1 : am_hb m o with
      | false =>
        refine am_call (y := 126) (vs := [.int m, .int (nI o)]) (rest := []) (v := (some (.int 0))) (h1 := (hG σ sr ln Lc μ)) rfl rfl rfl (sp_X11_hasBit d _ _ _ e1) ?_
        refine am_g 3 4 [some (.ref 15), some (.int m), some (.int (am_it (pu_kdS (σ 4) m) 0 o)), some (.int ((nI o) + 1))] [] (hG σ sr ln Lc μ) rfl ?_
        rw [nI_up, ← (show am_it (pu_kdS (σ 4) m) 0 (o + 1) = (am_it (pu_kdS (σ 4) m) 0 o) from (by rw [am_itS]; unfold pu_kdS; rw [e1]; rfl))]
        exact ih (o + 1) (by omega)
      | true =>
        refine am_call (y := 126) (vs := [.int m, .int (nI o)]) (rest := []) (v := (some (.int 1))) (h1 := (hG σ sr ln Lc μ)) rfl rfl rfl (sp_X11_hasBit d _ _ _ e1) ?_
        refine am_g 5 24 [some (.ref 15), some (.int m), some (.int (am_it (pu_kdS (σ 4) m) 0 o)), some (.int (nI o))] [.int (nI o), .ref 15, .int 1, .int (am_it (pu_kdS (σ 4) m) 0 o)] (hG σ sr ln Lc μ) rfl ?_
        refine am_call (y := 32) (vs := [.ref 15, .int (nI o)]) (rest := [.int 1, .int (am_it (pu_kdS (σ 4) m) 0 o)]) (v := (some (.int (σ 4 o)))) (h1 := (hG σ sr ln Lc μ)) rfl rfl rfl (sp_X3_kindOfObject_ok (σ := σ) (μ := μ) d o (by omega)) ?_
        refine am_g 5 4 [some (.ref 15), some (.int m), some (.int ((am_it (pu_kdS (σ 4) m) 0 o) ||| (1 <<< ((σ 4 o) &&& 31)))), some (.int ((nI o) + 1))] [] (hG σ sr ln Lc μ) rfl ?_
        rw [nI_up, ← (show am_it (pu_kdS (σ 4) m) 0 (o + 1) = ((am_it (pu_kdS (σ 4) m) 0 o) ||| (1 <<< ((σ 4 o) &&& 31))) from (by rw [am_itS]; unfold pu_kdS; rw [e1]; rfl))]
        exact ih (o + 1) (by omega)
  exact lp O 0 (by omega)
theorem sp_X11_tooMuch_ok (d : Nat) (n : Nat) (hn : n < 20) (hO : ρ 6 0 = nI O) (hO16 : O ≤ 16) (hbd : pu_bd 16 ((τ 22 n) &&& ((am_it (pu_kdS (ρ 4) (ρ 12 n)) 0 O) ^^^ (-1)))) (hg : ∀ d, am_X xs LL (d + 6) 52 [.ref 27] (hG σ sr ln Lc μ) (some (.ref 27)) (hG τ sr ln Lc μ)) (hf : ∀ d, am_X xs LL (d + 6) 52 [.ref 23] (hG τ sr ln Lc μ) (some (.ref 23)) (hG ρ sr ln Lc μ)) : am_X xs LL (d + 7) 103 [.ref 14, .int (nI n)] (hG σ sr ln Lc μ) (some (.int (nI (pu_cn ((τ 22 n) &&& ((am_it (pu_kdS (ρ 4) (ρ 12 n)) 0 O) ^^^ (-1))) 16)))) (hG ρ sr ln Lc μ) := by
  refine am_XR (d := d + 6) (C := cd_X11_tooMuch) (L := [some (.ref 14), some (.int (nI n)), none, none]) rfl rfl rfl rfl ?_
  refine am_g 1 1 [some (.ref 14), some (.int (nI n)), none, none] [.int (nI n)] (hG σ sr ln Lc μ) rfl ?_
  refine am_call (y := 123) (vs := [.int (nI n)]) (rest := []) (v := (some (.int 1))) (h1 := (hG σ sr ln Lc μ)) rfl rfl rfl (sp_X11_isName (d + 4) _ _ (am_in_of_nI hn (by omega))) ?_
  refine am_g 3 14 [some (.ref 14), some (.int (nI n)), none, none] [.ref 27] (hG σ sr ln Lc μ) rfl ?_
  refine am_call (y := 52) (vs := [.ref 27]) (rest := []) (v := (some (.ref 27))) (h1 := (hG τ sr ln Lc μ)) rfl rfl rfl (hg d) ?_
  refine am_g 1 18 [some (.ref 14), some (.int (nI n)), none, none] [.int (nI n), .ref 27] (hG τ sr ln Lc μ) rfl ?_
  refine am_call (y := 56) (vs := [.ref 27, .int (nI n)]) (rest := []) (v := (some (.int (τ 22 n)))) (h1 := (hG τ sr ln Lc μ)) rfl rfl rfl (sp_X7_heldAt_1_k (σ := τ) (μ := μ) (d + 5) n (by omega)) ?_
  refine am_g 5 30 [some (.ref 14), some (.int (nI n)), some (.int (τ 22 n)), none] [.ref 23, .ref 15] (hG τ sr ln Lc μ) rfl ?_
  refine am_call (y := 52) (vs := [.ref 23]) (rest := [.ref 15]) (v := (some (.ref 23))) (h1 := (hG ρ sr ln Lc μ)) rfl rfl rfl (hf d) ?_
  refine am_g 1 34 [some (.ref 14), some (.int (nI n)), some (.int (τ 22 n)), none] [.int (nI n), .ref 23, .ref 15] (hG ρ sr ln Lc μ) rfl ?_
  refine am_call (y := 56) (vs := [.ref 23, .int (nI n)]) (rest := [.ref 15]) (v := (some (.int (ρ 12 n)))) (h1 := (hG ρ sr ln Lc μ)) rfl rfl rfl (sp_X7_heldAt_0_k (σ := ρ) (μ := μ) (d + 5) n (by omega)) ?_
  refine am_call (y := 33) (vs := [.ref 15, .int (ρ 12 n)]) (rest := []) (v := (some (.int (am_it (pu_kdS (ρ 4) (ρ 12 n)) 0 O)))) (h1 := (hG ρ sr ln Lc μ)) rfl rfl rfl (sp_X3_kindsOf (σ := ρ) (μ := μ) (d + 4) _ hO hO16) ?_
  refine am_g 6 46 [some (.ref 14), some (.int (nI n)), some (.int (τ 22 n)), some (.int (am_it (pu_kdS (ρ 4) (ρ 12 n)) 0 O))] [.int ((τ 22 n) &&& ((am_it (pu_kdS (ρ 4) (ρ 12 n)) 0 O) ^^^ (-1)))] (hG ρ sr ln Lc μ) rfl ?_
  refine am_call (y := 210) (vs := [.int ((τ 22 n) &&& ((am_it (pu_kdS (ρ 4) (ρ 12 n)) 0 O) ^^^ (-1)))]) (rest := []) (v := (some (.int (nI (pu_cn ((τ 22 n) &&& ((am_it (pu_kdS (ρ 4) (ρ 12 n)) 0 O) ^^^ (-1))) 16))))) (h1 := (hG ρ sr ln Lc μ)) rfl rfl rfl (sp_bitCount (d + 5) _ _ hbd) ?_
  exact am_ret2 rfl rfl rfl rfl rfl
theorem sp_X11_tooMuch_bad (d : Nat) (n : Int32) (hb : am_in n 20 = false) : am_X xs LL (d + 3) 103 [.ref 14, .int n] (hG σ sr ln Lc μ) (some (.int (-2))) (hG σ sr ln Lc μ) := by
  refine am_XR (d := d + 2) (C := cd_X11_tooMuch) (L := [some (.ref 14), some (.int n), none, none]) rfl rfl rfl rfl ?_
  refine am_g 1 1 [some (.ref 14), some (.int n), none, none] [.int n] (hG σ sr ln Lc μ) rfl ?_
  refine am_call (y := 123) (vs := [.int n]) (rest := []) (v := (some (.int 0))) (h1 := (hG σ sr ln Lc μ)) rfl rfl rfl (sp_X11_isName d _ _ hb) ?_
  refine am_g 2 9 [some (.ref 14), some (.int n), none, none] [.int (-2)] (hG σ sr ln Lc μ) rfl ?_
  exact am_ret2 rfl rfl rfl rfl rfl
theorem sp_X11_same_ok (d : Nat) (a b : Nat) (ha : a < 20) (hb : b < 20) (hbd : pu_bd 16 (τ 12 a)) (hf : ∀ d, am_X xs LL (d + 6) 52 [.ref 23] (hG σ sr ln Lc μ) (some (.ref 23)) (hG τ sr ln Lc μ)) : am_X xs LL (d + 7) 109 [.ref 14, .int (nI a), .int (nI b)] (hG σ sr ln Lc μ) (some (.int (if nI (pu_cn (τ 12 a) 16) = 1 then (if (τ 12 a) = (τ 12 b) then 1 else 0) else 0))) (hG τ sr ln Lc μ) := by
  refine am_XR (d := d + 6) (C := cd_X11_same) (L := [some (.ref 14), some (.int (nI a)), some (.int (nI b)), none, none]) rfl rfl rfl rfl ?_
  refine am_g 1 1 [some (.ref 14), some (.int (nI a)), some (.int (nI b)), none, none] [.int (nI a)] (hG σ sr ln Lc μ) rfl ?_
  refine am_call (y := 123) (vs := [.int (nI a)]) (rest := []) (v := (some (.int 1))) (h1 := (hG σ sr ln Lc μ)) rfl rfl rfl (sp_X11_isName (d + 4) _ _ (am_in_of_nI ha (by omega))) ?_
  refine am_g 2 8 [some (.ref 14), some (.int (nI a)), some (.int (nI b)), none, none] [.int (nI b)] (hG σ sr ln Lc μ) rfl ?_
  refine am_call (y := 123) (vs := [.int (nI b)]) (rest := []) (v := (some (.int 1))) (h1 := (hG σ sr ln Lc μ)) rfl rfl rfl (sp_X11_isName (d + 4) _ _ (am_in_of_nI hb (by omega))) ?_
  refine am_g 3 21 [some (.ref 14), some (.int (nI a)), some (.int (nI b)), none, none] [.ref 23] (hG σ sr ln Lc μ) rfl ?_
  refine am_call (y := 52) (vs := [.ref 23]) (rest := []) (v := (some (.ref 23))) (h1 := (hG τ sr ln Lc μ)) rfl rfl rfl (hf d) ?_
  refine am_g 3 27 [some (.ref 14), some (.int (nI a)), some (.int (nI b)), some (.ref 23), none] [.int (nI a), .ref 23] (hG τ sr ln Lc μ) rfl ?_
  refine am_call (y := 56) (vs := [.ref 23, .int (nI a)]) (rest := []) (v := (some (.int (τ 12 a)))) (h1 := (hG τ sr ln Lc μ)) rfl rfl rfl (sp_X7_heldAt_0_k (σ := τ) (μ := μ) (d + 5) a (by omega)) ?_
  refine am_g 2 34 [some (.ref 14), some (.int (nI a)), some (.int (nI b)), some (.ref 23), some (.int (τ 12 a))] [.int (τ 12 a)] (hG τ sr ln Lc μ) rfl ?_
  refine am_call (y := 210) (vs := [.int (τ 12 a)]) (rest := []) (v := (some (.int (nI (pu_cn (τ 12 a) 16))))) (h1 := (hG τ sr ln Lc μ)) rfl rfl rfl (sp_bitCount (d + 5) _ _ hbd) ?_
  refine am_g 2 (if (nI (pu_cn (τ 12 a) 16)) = 1 then 41 else 55) [some (.ref 14), some (.int (nI a)), some (.int (nI b)), some (.ref 23), some (.int (τ 12 a))] [] (hG τ sr ln Lc μ) rfl (am_brR (fun c1 => ?_) (fun c1 => ?_))
  · skip
    refine am_g 3 45 [some (.ref 14), some (.int (nI a)), some (.int (nI b)), some (.ref 23), some (.int (τ 12 a))] [.int (nI b), .ref 23, .int (τ 12 a)] (hG τ sr ln Lc μ) rfl ?_
    refine am_call (y := 56) (vs := [.ref 23, .int (nI b)]) (rest := [.int (τ 12 a)]) (v := (some (.int (τ 12 b)))) (h1 := (hG τ sr ln Lc μ)) rfl rfl rfl (sp_X7_heldAt_0_k (σ := τ) (μ := μ) (d + 5) b (by omega)) ?_
    refine am_g 1 (if (τ 12 a) = (τ 12 b) then 51 else 55) [some (.ref 14), some (.int (nI a)), some (.int (nI b)), some (.ref 23), some (.int (τ 12 a))] [] (hG τ sr ln Lc μ) rfl (am_brR (fun c2 => ?_) (fun c2 => ?_))
    · skip
      refine am_g 2 56 [some (.ref 14), some (.int (nI a)), some (.int (nI b)), some (.ref 23), some (.int (τ 12 a))] [.int 1] (hG τ sr ln Lc μ) rfl ?_
      refine am_call (y := 125) (vs := [.int 1]) (rest := []) (v := (some (.int 1))) (h1 := (hG τ sr ln Lc μ)) rfl rfl rfl (sp_X11_bit1 (d + 5) _) ?_
      exact am_ret2 rfl rfl rfl (by rw [if_pos c1, if_pos c2]) rfl
    · skip
      refine am_g 1 56 [some (.ref 14), some (.int (nI a)), some (.int (nI b)), some (.ref 23), some (.int (τ 12 a))] [.int 0] (hG τ sr ln Lc μ) rfl ?_
      refine am_call (y := 125) (vs := [.int 0]) (rest := []) (v := (some (.int 0))) (h1 := (hG τ sr ln Lc μ)) rfl rfl rfl (sp_X11_bit0 (d + 5) _) ?_
      exact am_ret2 rfl rfl rfl (by rw [if_pos c1, if_neg c2]) rfl
  · skip
    refine am_g 1 56 [some (.ref 14), some (.int (nI a)), some (.int (nI b)), some (.ref 23), some (.int (τ 12 a))] [.int 0] (hG τ sr ln Lc μ) rfl ?_
    refine am_call (y := 125) (vs := [.int 0]) (rest := []) (v := (some (.int 0))) (h1 := (hG τ sr ln Lc μ)) rfl rfl rfl (sp_X11_bit0 (d + 5) _) ?_
    exact am_ret2 rfl rfl rfl (by rw [if_neg c1]) rfl
theorem sp_X11_same_bad1 (d : Nat) (a b : Int32) (hb : am_in a 20 = false) : am_X xs LL (d + 3) 109 [.ref 14, .int a, .int b] (hG σ sr ln Lc μ) (some (.int (-2))) (hG σ sr ln Lc μ) := by
  refine am_XR (d := d + 2) (C := cd_X11_same) (L := [some (.ref 14), some (.int a), some (.int b), none, none]) rfl rfl rfl rfl ?_
  refine am_g 1 1 [some (.ref 14), some (.int a), some (.int b), none, none] [.int a] (hG σ sr ln Lc μ) rfl ?_
  refine am_call (y := 123) (vs := [.int a]) (rest := []) (v := (some (.int 0))) (h1 := (hG σ sr ln Lc μ)) rfl rfl rfl (sp_X11_isName d _ _ hb) ?_
  refine am_g 2 16 [some (.ref 14), some (.int a), some (.int b), none, none] [.int (-2)] (hG σ sr ln Lc μ) rfl ?_
  exact am_ret2 rfl rfl rfl rfl rfl
theorem sp_X11_same_bad2 (d : Nat) (a : Nat) (b : Int32) (ha : a < 20) (hb : am_in b 20 = false) : am_X xs LL (d + 3) 109 [.ref 14, .int (nI a), .int b] (hG σ sr ln Lc μ) (some (.int (-2))) (hG σ sr ln Lc μ) := by
  refine am_XR (d := d + 2) (C := cd_X11_same) (L := [some (.ref 14), some (.int (nI a)), some (.int b), none, none]) rfl rfl rfl rfl ?_
  refine am_g 1 1 [some (.ref 14), some (.int (nI a)), some (.int b), none, none] [.int (nI a)] (hG σ sr ln Lc μ) rfl ?_
  refine am_call (y := 123) (vs := [.int (nI a)]) (rest := []) (v := (some (.int 1))) (h1 := (hG σ sr ln Lc μ)) rfl rfl rfl (sp_X11_isName d _ _ (am_in_of_nI ha (by omega))) ?_
  refine am_g 2 8 [some (.ref 14), some (.int (nI a)), some (.int b), none, none] [.int b] (hG σ sr ln Lc μ) rfl ?_
  refine am_call (y := 123) (vs := [.int b]) (rest := []) (v := (some (.int 0))) (h1 := (hG σ sr ln Lc μ)) rfl rfl rfl (sp_X11_isName d _ _ hb) ?_
  refine am_g 2 16 [some (.ref 14), some (.int (nI a)), some (.int b), none, none] [.int (-2)] (hG σ sr ln Lc μ) rfl ?_
  exact am_ret2 rfl rfl rfl rfl rfl
theorem sp_X12_same_ok (d : Nat) (a b : Nat) (ha : a < 20) (hb : b < 20) (hbd : pu_bd 16 (ν 24 a)) (hw : ∀ d, am_X xs LL (d + 6) 173 [.ref 47, .int 0, .int (-1)] (hG σ sr ln Lc μ) none (hG σ sr ln Lc ν)) : am_X xs LL (d + 7) 188 [.ref 47, .int (nI a), .int (nI b)] (hG σ sr ln Lc μ) (some (.int (if nI (pu_cn (ν 24 a) 16) = 1 then (if (ν 24 a) = (ν 24 b) then 1 else 0) else 0))) (hG σ sr ln Lc ν) := by
  refine am_XR (d := d + 6) (C := cd_X12_same) (L := [some (.ref 47), some (.int (nI a)), some (.int (nI b))]) rfl rfl rfl rfl ?_
  refine am_g 1 1 [some (.ref 47), some (.int (nI a)), some (.int (nI b))] [.int (nI a)] (hG σ sr ln Lc μ) rfl ?_
  refine am_call (y := 143) (vs := [.int (nI a)]) (rest := []) (v := (some (.int 1))) (h1 := (hG σ sr ln Lc μ)) rfl rfl rfl (sp_X12_isName (d + 4) _ _ (am_in_of_nI ha (by omega))) ?_
  refine am_g 2 8 [some (.ref 47), some (.int (nI a)), some (.int (nI b))] [.int (nI b)] (hG σ sr ln Lc μ) rfl ?_
  refine am_call (y := 143) (vs := [.int (nI b)]) (rest := []) (v := (some (.int 1))) (h1 := (hG σ sr ln Lc μ)) rfl rfl rfl (sp_X12_isName (d + 4) _ _ (am_in_of_nI hb (by omega))) ?_
  refine am_g 4 20 [some (.ref 47), some (.int (nI a)), some (.int (nI b))] [.int (-1), .int 0, .ref 47] (hG σ sr ln Lc μ) rfl ?_
  refine am_call (y := 173) (vs := [.ref 47, .int 0, .int (-1)]) (rest := []) (v := none) (h1 := (hG σ sr ln Lc ν)) rfl rfl rfl (hw d) ?_
  refine am_g 3 28 [some (.ref 47), some (.int (nI a)), some (.int (nI b))] [.int (nI a), .ref 65] (hG σ sr ln Lc ν) rfl ?_
  refine am_ialdR (n := 68) (f := (ν 24)) (k := a) rfl rfl (rfl) (by omega) (by decide) ?_
  refine am_call (y := 179) (vs := [.int (ν 24 a)]) (rest := []) (v := (some (.int (nI (pu_cn (ν 24 a) 16))))) (h1 := (hG σ sr ln Lc ν)) rfl rfl rfl (sp_X12_bitsOf (d + 5) _ _ hbd) ?_
  refine am_g 2 (if (nI (pu_cn (ν 24 a) 16)) = 1 then 36 else 55) [some (.ref 47), some (.int (nI a)), some (.int (nI b))] [] (hG σ sr ln Lc ν) rfl (am_brR (fun c1 => ?_) (fun c1 => ?_))
  · skip
    refine am_g 3 41 [some (.ref 47), some (.int (nI a)), some (.int (nI b))] [.int (nI a), .ref 65] (hG σ sr ln Lc ν) rfl ?_
    refine am_ialdR (n := 68) (f := (ν 24)) (k := a) rfl rfl (rfl) (by omega) (by decide) ?_
    refine am_g 3 47 [some (.ref 47), some (.int (nI a)), some (.int (nI b))] [.int (nI b), .ref 65, .int (ν 24 a)] (hG σ sr ln Lc ν) rfl ?_
    refine am_ialdR (n := 68) (f := (ν 24)) (k := b) rfl rfl (rfl) (by omega) (by decide) ?_
    refine am_g 1 (if (ν 24 a) = (ν 24 b) then 51 else 55) [some (.ref 47), some (.int (nI a)), some (.int (nI b))] [] (hG σ sr ln Lc ν) rfl (am_brR (fun c2 => ?_) (fun c2 => ?_))
    · skip
      refine am_g 2 56 [some (.ref 47), some (.int (nI a)), some (.int (nI b))] [.int 1] (hG σ sr ln Lc ν) rfl ?_
      exact am_ret2 rfl rfl rfl (by rw [if_pos c1, if_pos c2]) rfl
    · skip
      refine am_g 1 56 [some (.ref 47), some (.int (nI a)), some (.int (nI b))] [.int 0] (hG σ sr ln Lc ν) rfl ?_
      exact am_ret2 rfl rfl rfl (by rw [if_pos c1, if_neg c2]) rfl
  · skip
    refine am_g 1 56 [some (.ref 47), some (.int (nI a)), some (.int (nI b))] [.int 0] (hG σ sr ln Lc ν) rfl ?_
    exact am_ret2 rfl rfl rfl (by rw [if_neg c1]) rfl
theorem sp_X12_same_bad1 (d : Nat) (a b : Int32) (hb : am_in a 20 = false) : am_X xs LL (d + 3) 188 [.ref 47, .int a, .int b] (hG σ sr ln Lc μ) (some (.int (-2))) (hG σ sr ln Lc μ) := by
  refine am_XR (d := d + 2) (C := cd_X12_same) (L := [some (.ref 47), some (.int a), some (.int b)]) rfl rfl rfl rfl ?_
  refine am_g 1 1 [some (.ref 47), some (.int a), some (.int b)] [.int a] (hG σ sr ln Lc μ) rfl ?_
  refine am_call (y := 143) (vs := [.int a]) (rest := []) (v := (some (.int 0))) (h1 := (hG σ sr ln Lc μ)) rfl rfl rfl (sp_X12_isName d _ _ hb) ?_
  refine am_g 2 16 [some (.ref 47), some (.int a), some (.int b)] [.int (-2)] (hG σ sr ln Lc μ) rfl ?_
  exact am_ret2 rfl rfl rfl rfl rfl
theorem sp_X12_same_bad2 (d : Nat) (a : Nat) (b : Int32) (ha : a < 20) (hb : am_in b 20 = false) : am_X xs LL (d + 3) 188 [.ref 47, .int (nI a), .int b] (hG σ sr ln Lc μ) (some (.int (-2))) (hG σ sr ln Lc μ) := by
  refine am_XR (d := d + 2) (C := cd_X12_same) (L := [some (.ref 47), some (.int (nI a)), some (.int b)]) rfl rfl rfl rfl ?_
  refine am_g 1 1 [some (.ref 47), some (.int (nI a)), some (.int b)] [.int (nI a)] (hG σ sr ln Lc μ) rfl ?_
  refine am_call (y := 143) (vs := [.int (nI a)]) (rest := []) (v := (some (.int 1))) (h1 := (hG σ sr ln Lc μ)) rfl rfl rfl (sp_X12_isName d _ _ (am_in_of_nI ha (by omega))) ?_
  refine am_g 2 8 [some (.ref 47), some (.int (nI a)), some (.int b)] [.int b] (hG σ sr ln Lc μ) rfl ?_
  refine am_call (y := 143) (vs := [.int b]) (rest := []) (v := (some (.int 0))) (h1 := (hG σ sr ln Lc μ)) rfl rfl rfl (sp_X12_isName d _ _ hb) ?_
  refine am_g 2 16 [some (.ref 47), some (.int (nI a)), some (.int b)] [.int (-2)] (hG σ sr ln Lc μ) rfl ?_
  exact am_ret2 rfl rfl rfl rfl rfl
theorem sp_X12_tooMuch_ok (d : Nat) (n : Nat) (hn : n < 20) (hO : κ 19 0 = nI O) (hO16 : O ≤ 16) (kf : Nat → Int32) (hkf : ∀ o, o < O → ∀ d, am_X xs LL (d + 1) 154 [.ref 47, .int (nI o)] (hG σ sr ln Lc κ) (some (.int (kf o))) (hG σ sr ln Lc κ)) (hbd : pu_bd 16 ((ν 24 n) &&& ((am_it (pu_kdS kf (κ 24 n)) 0 O) ^^^ (-1)))) (hw : ∀ d, am_X xs LL (d + 6) 173 [.ref 47, .int 1, .int (-1)] (hG σ sr ln Lc μ) none (hG σ sr ln Lc ν)) (hw2 : ∀ d, am_X xs LL (d + 6) 173 [.ref 47, .int 0, .int (-1)] (hG σ sr ln Lc ν) none (hG σ sr ln Lc κ)) : am_X xs LL (d + 7) 180 [.ref 47, .int (nI n)] (hG σ sr ln Lc μ) (some (.int (nI (pu_cn ((ν 24 n) &&& ((am_it (pu_kdS kf (κ 24 n)) 0 O) ^^^ (-1))) 16)))) (hG σ sr ln Lc κ) := by
  refine am_XR (d := d + 6) (C := cd_X12_tooMuch) (L := [some (.ref 47), some (.int (nI n)), none, none, none]) rfl rfl rfl rfl ?_
  refine am_g 1 1 [some (.ref 47), some (.int (nI n)), none, none, none] [.int (nI n)] (hG σ sr ln Lc μ) rfl ?_
  refine am_call (y := 143) (vs := [.int (nI n)]) (rest := []) (v := (some (.int 1))) (h1 := (hG σ sr ln Lc μ)) rfl rfl rfl (sp_X12_isName (d + 4) _ _ (am_in_of_nI hn (by omega))) ?_
  refine am_g 4 13 [some (.ref 47), some (.int (nI n)), none, none, none] [.int (-1), .int 1, .ref 47] (hG σ sr ln Lc μ) rfl ?_
  refine am_call (y := 173) (vs := [.ref 47, .int 1, .int (-1)]) (rest := []) (v := none) (h1 := (hG σ sr ln Lc ν)) rfl rfl rfl (hw d) ?_
  refine am_g 3 21 [some (.ref 47), some (.int (nI n)), none, none, none] [.int (nI n), .ref 65] (hG σ sr ln Lc ν) rfl ?_
  refine am_ialdR (n := 68) (f := (ν 24)) (k := n) rfl rfl (rfl) (by omega) (by decide) ?_
  refine am_g 4 26 [some (.ref 47), some (.int (nI n)), some (.int (ν 24 n)), none, none] [.int (-1), .int 0, .ref 47] (hG σ sr ln Lc ν) rfl ?_
  refine am_call (y := 173) (vs := [.ref 47, .int 0, .int (-1)]) (rest := []) (v := none) (h1 := (hG σ sr ln Lc κ)) rfl rfl rfl (hw2 d) ?_
  refine am_g 4 34 [some (.ref 47), some (.int (nI n)), some (.int (ν 24 n)), some (.int 0), some (.int 0)] [] (hG σ sr ln Lc κ) rfl ?_
  have lp : ∀ (r o : Nat), o + r = O → am_R xs LL cd_X12_tooMuch (am_X xs LL (d + 6)) 34 [some (.ref 47), some (.int (nI n)), some (.int (ν 24 n)), some (.int (am_it (pu_kdS kf (κ 24 n)) 0 o)), some (.int (nI o))] [] (hG σ sr ln Lc κ) (some (.int (nI (pu_cn ((ν 24 n) &&& ((am_it (pu_kdS kf (κ 24 n)) 0 O) ^^^ (-1))) 16)))) (hG σ sr ln Lc κ) := by
    intro r
    induction r with
    | zero =>
      intro o  hi
      have hi2 : o = O := by omega
      rw [hi2]
      refine am_g 3 40 [some (.ref 47), some (.int (nI n)), some (.int (ν 24 n)), some (.int (am_it (pu_kdS kf (κ 24 n)) 0 O)), some (.int (nI O))] [.int (κ 19 0), .int (nI O)] (hG σ sr ln Lc κ) rfl ?_
      rw [show (κ 19 0) = (nI O) from hO]
      refine am_g 1 (if (nI O) ≤ (nI O) then 79 else 43) [some (.ref 47), some (.int (nI n)), some (.int (ν 24 n)), some (.int (am_it (pu_kdS kf (κ 24 n)) 0 O)), some (.int (nI O))] [] (hG σ sr ln Lc κ) rfl ?_
      rw [if_pos (show (nI O) ≤ (nI O) from (am_dle (a := O) (b := O) (rfl) (rfl) (by omega) (by omega) (by omega)))]
      refine am_g 5 84 [some (.ref 47), some (.int (nI n)), some (.int (ν 24 n)), some (.int (am_it (pu_kdS kf (κ 24 n)) 0 O)), some (.int (nI O))] [.int ((ν 24 n) &&& ((am_it (pu_kdS kf (κ 24 n)) 0 O) ^^^ (-1)))] (hG σ sr ln Lc κ) rfl ?_
      refine am_call (y := 179) (vs := [.int ((ν 24 n) &&& ((am_it (pu_kdS kf (κ 24 n)) 0 O) ^^^ (-1)))]) (rest := []) (v := (some (.int (nI (pu_cn ((ν 24 n) &&& ((am_it (pu_kdS kf (κ 24 n)) 0 O) ^^^ (-1))) 16))))) (h1 := (hG σ sr ln Lc κ)) rfl rfl rfl (sp_X12_bitsOf (d + 5) _ _ hbd) ?_
      exact am_ret2 rfl rfl rfl rfl rfl
    | succ r ih =>
      intro o  hi
      have hi2 : o < O := by omega
      refine am_g 3 40 [some (.ref 47), some (.int (nI n)), some (.int (ν 24 n)), some (.int (am_it (pu_kdS kf (κ 24 n)) 0 o)), some (.int (nI o))] [.int (κ 19 0), .int (nI o)] (hG σ sr ln Lc κ) rfl ?_
      rw [show (κ 19 0) = (nI O) from hO]
      refine am_g 1 (if (nI O) ≤ (nI o) then 79 else 43) [some (.ref 47), some (.int (nI n)), some (.int (ν 24 n)), some (.int (am_it (pu_kdS kf (κ 24 n)) 0 o)), some (.int (nI o))] [] (hG σ sr ln Lc κ) rfl ?_
      rw [if_neg (show ¬ (nI O) ≤ (nI o) from (am_dnle (a := O) (b := o) (rfl) (rfl) (by omega) (by omega) (by omega)))]
      refine am_g 4 49 [some (.ref 47), some (.int (nI n)), some (.int (ν 24 n)), some (.int (am_it (pu_kdS kf (κ 24 n)) 0 o)), some (.int (nI o))] [.int (nI n), .ref 65, .int (am_it (pu_kdS kf (κ 24 n)) 0 o)] (hG σ sr ln Lc κ) rfl ?_
      refine am_ialdR (n := 68) (f := (κ 24)) (k := n) rfl rfl (rfl) (by omega) (by decide) ?_
      refine am_g 6 (if (((κ 24 n) >>> ((nI o) &&& 31)) &&& 1) = 1 then 59 else 70) [some (.ref 47), some (.int (nI n)), some (.int (ν 24 n)), some (.int (am_it (pu_kdS kf (κ 24 n)) 0 o)), some (.int (nI o))] [.int (am_it (pu_kdS kf (κ 24 n)) 0 o)] (hG σ sr ln Lc κ) rfl (am_brR (fun c1 => ?_) (fun c1 => ?_))
      · skip
        refine am_g 3 63 [some (.ref 47), some (.int (nI n)), some (.int (ν 24 n)), some (.int (am_it (pu_kdS kf (κ 24 n)) 0 o)), some (.int (nI o))] [.int (nI o), .ref 47, .int 1, .int (am_it (pu_kdS kf (κ 24 n)) 0 o)] (hG σ sr ln Lc κ) rfl ?_
        refine am_call (y := 154) (vs := [.ref 47, .int (nI o)]) (rest := [.int 1, .int (am_it (pu_kdS kf (κ 24 n)) 0 o)]) (v := (some (.int (kf o)))) (h1 := (hG σ sr ln Lc κ)) rfl rfl rfl (hkf o (by omega) (d + 5)) ?_
        refine am_g 6 34 [some (.ref 47), some (.int (nI n)), some (.int (ν 24 n)), some (.int ((am_it (pu_kdS kf (κ 24 n)) 0 o) ||| (1 <<< ((kf o) &&& 31)))), some (.int ((nI o) + 1))] [] (hG σ sr ln Lc κ) rfl ?_
        have qq : (am_it (pu_kdS kf (κ 24 n)) 0 (o + 1)) = ((am_it (pu_kdS kf (κ 24 n)) 0 o) ||| (1 <<< ((kf o) &&& 31))) := by
          rw [am_itS]; unfold pu_kdS; rw [show am_hb (κ 24 n) o = true from decide_eq_true c1]; rfl
        rw [nI_up, ← qq]
        exact ih (o + 1) (by omega)
      · skip
        refine am_g 5 34 [some (.ref 47), some (.int (nI n)), some (.int (ν 24 n)), some (.int ((am_it (pu_kdS kf (κ 24 n)) 0 o) ||| 0)), some (.int ((nI o) + 1))] [] (hG σ sr ln Lc κ) rfl ?_
        have qq : (am_it (pu_kdS kf (κ 24 n)) 0 (o + 1)) = ((am_it (pu_kdS kf (κ 24 n)) 0 o) ||| 0) := by
          rw [am_itS]; unfold pu_kdS; rw [show am_hb (κ 24 n) o = false from decide_eq_false c1]; exact (am_or0 _).symm
        rw [nI_up, ← qq]
        exact ih (o + 1) (by omega)
  exact lp O 0 (by omega)
theorem sp_X12_tooMuch_bad (d : Nat) (n : Int32) (hb : am_in n 20 = false) : am_X xs LL (d + 3) 180 [.ref 47, .int n] (hG σ sr ln Lc μ) (some (.int (-2))) (hG σ sr ln Lc μ) := by
  refine am_XR (d := d + 2) (C := cd_X12_tooMuch) (L := [some (.ref 47), some (.int n), none, none, none]) rfl rfl rfl rfl ?_
  refine am_g 1 1 [some (.ref 47), some (.int n), none, none, none] [.int n] (hG σ sr ln Lc μ) rfl ?_
  refine am_call (y := 143) (vs := [.int n]) (rest := []) (v := (some (.int 0))) (h1 := (hG σ sr ln Lc μ)) rfl rfl rfl (sp_X12_isName d _ _ hb) ?_
  refine am_g 2 9 [some (.ref 47), some (.int n), none, none, none] [.int (-2)] (hG σ sr ln Lc μ) rfl ?_
  exact am_ret2 rfl rfl rfl rfl rfl
theorem pu_ntz_m {v : Int32} {k : Nat} (hv : pu_bd 20 v) (hk : k < 20) (h1 : bt v k = true) (h0 : ∀ i, i < k → bt v i = false) : (v ^^^ (-1)) &&& (v - 1) = nI (2 ^ k - 1) := by
  have hl := pu_low (fun i hi hb => by have := hv i hi hb; omega) (by omega) h1 h0
  apply b_ext
  intro i hi
  rw [b_and, b_xor, b_m1 i hi, Bool.xor_true, hl i hi, nI_bt _ hi, Nat.testBit_two_pow_sub_one]
  by_cases q : i < k
  · rw [if_pos q, h0 i q, decide_eq_true q]; rfl
  · rw [if_neg q, decide_eq_false q]
    by_cases q2 : i = k
    · rw [if_pos q2, Bool.and_false]
    · rw [if_neg q2, Bool.not_and_self]
theorem sp_ntz (d : Nat) (v : Int32) (k : Nat) (h : am_H) (hv : pu_bd 20 v) (hk : k < 20) (h1 : bt v k = true) (h0 : ∀ i, i < k → bt v i = false) : am_X xs LL (d + 1) 211 [.int v] h (some (.int (nI k))) h := by
  refine am_XR (d := d + 0) (C := cd_J6_numberOfTrailingZeros_0f7a4) (L := [some (.int v), none]) rfl rfl rfl rfl ?_
  refine am_g 8 8 [some (.int ((v ^^^ (-1)) &&& (v - 1))), none] [] h rfl ?_
  rw [pu_ntz_m hv hk h1 h0]
  clear h1 h0 hv
  match k, hk with
  | 0, _ => refine am_g 5 16 [some (.int 0), none] [.int 0] h rfl ?_; exact am_ret2 rfl rfl rfl rfl rfl
  | 1, _ => refine am_g 21 79 [some (.int 1), some (.int 1)] [.int 1] h rfl ?_; exact am_ret2 rfl rfl rfl rfl rfl
  | 2, _ => refine am_g 21 79 [some (.int 3), some (.int 1)] [.int 2] h rfl ?_; exact am_ret2 rfl rfl rfl rfl rfl
  | 3, _ => refine am_g 26 79 [some (.int 1), some (.int 3)] [.int 3] h rfl ?_; exact am_ret2 rfl rfl rfl rfl rfl
  | 4, _ => refine am_g 26 79 [some (.int 3), some (.int 3)] [.int 4] h rfl ?_; exact am_ret2 rfl rfl rfl rfl rfl
  | 5, _ => refine am_g 26 79 [some (.int 1), some (.int 5)] [.int 5] h rfl ?_; exact am_ret2 rfl rfl rfl rfl rfl
  | 6, _ => refine am_g 26 79 [some (.int 3), some (.int 5)] [.int 6] h rfl ?_; exact am_ret2 rfl rfl rfl rfl rfl
  | 7, _ => refine am_g 31 79 [some (.int 1), some (.int 7)] [.int 7] h rfl ?_; exact am_ret2 rfl rfl rfl rfl rfl
  | 8, _ => refine am_g 31 79 [some (.int 3), some (.int 7)] [.int 8] h rfl ?_; exact am_ret2 rfl rfl rfl rfl rfl
  | 9, _ => refine am_g 26 79 [some (.int 1), some (.int 9)] [.int 9] h rfl ?_; exact am_ret2 rfl rfl rfl rfl rfl
  | 10, _ => refine am_g 26 79 [some (.int 3), some (.int 9)] [.int 10] h rfl ?_; exact am_ret2 rfl rfl rfl rfl rfl
  | 11, _ => refine am_g 31 79 [some (.int 1), some (.int 11)] [.int 11] h rfl ?_; exact am_ret2 rfl rfl rfl rfl rfl
  | 12, _ => refine am_g 31 79 [some (.int 3), some (.int 11)] [.int 12] h rfl ?_; exact am_ret2 rfl rfl rfl rfl rfl
  | 13, _ => refine am_g 31 79 [some (.int 1), some (.int 13)] [.int 13] h rfl ?_; exact am_ret2 rfl rfl rfl rfl rfl
  | 14, _ => refine am_g 31 79 [some (.int 3), some (.int 13)] [.int 14] h rfl ?_; exact am_ret2 rfl rfl rfl rfl rfl
  | 15, _ => refine am_g 36 79 [some (.int 1), some (.int 15)] [.int 15] h rfl ?_; exact am_ret2 rfl rfl rfl rfl rfl
  | 16, _ => refine am_g 36 79 [some (.int 3), some (.int 15)] [.int 16] h rfl ?_; exact am_ret2 rfl rfl rfl rfl rfl
  | 17, _ => refine am_g 26 79 [some (.int 1), some (.int 17)] [.int 17] h rfl ?_; exact am_ret2 rfl rfl rfl rfl rfl
  | 18, _ => refine am_g 26 79 [some (.int 3), some (.int 17)] [.int 18] h rfl ?_; exact am_ret2 rfl rfl rfl rfl rfl
  | 19, _ => refine am_g 31 79 [some (.int 1), some (.int 19)] [.int 19] h rfl ?_; exact am_ret2 rfl rfl rfl rfl rfl
  | nn + 20, hh => exact absurd hh (by omega)
end SM
