/-! the sheets -/
theorem rl_subI {x y : Int32} (h : -2147483648 ≤ x.toInt - y.toInt) (h2 : x.toInt - y.toInt < 2147483648) : (x - y).toInt = x.toInt - y.toInt := by
  rw [Int32.toInt_sub]
  exact Int.bmod_eq_of_le (by omega) (by omega)
theorem rl_subN {a b : Nat} (h : b ≤ a) (ha : a < 2 ^ 31) : nI a - nI b = nI (a - b) := by
  apply Int32.toInt_inj.mp
  rw [rl_subI (by rw [nI_toInt ha, nI_toInt (by omega)]; omega) (by rw [nI_toInt ha, nI_toInt (by omega)]; omega), nI_toInt ha, nI_toInt (by omega), nI_toInt (by omega)]
  omega
theorem rl_z0 : (0 : Int32).toInt = 0 := by decide
theorem rl_rng (x : Int32) : -2147483648 ≤ x.toInt ∧ x.toInt < 2147483648 := ⟨Int32.le_toInt x, Int32.toInt_lt x⟩
theorem pu_cv_iff {z : Nat} (hz : z ≤ 40) {a n : Int32} : pu_cv z a n = true ↔ 0 ≤ a.toInt ∧ 0 ≤ n.toInt ∧ a.toInt + n.toInt ≤ (z : Int) := by
  unfold pu_cv
  rw [decide_eq_true_iff, Int32.le_iff_toInt_le, Int32.le_iff_toInt_le, Int32.le_iff_toInt_le, Int32.le_iff_toInt_le, rl_z0, nI_toInt (by omega : z < 2 ^ 31)]
  have ha := rl_rng a
  constructor
  · rintro ⟨h1, h2, h3, h4⟩
    rw [rl_subI (by rw [nI_toInt (by omega : z < 2 ^ 31)]; omega) (by rw [nI_toInt (by omega : z < 2 ^ 31)]; omega), nI_toInt (by omega : z < 2 ^ 31)] at h4
    exact ⟨h1, h2, by omega⟩
  · rintro ⟨h1, h2, h3⟩
    refine ⟨h1, h2, by omega, ?_⟩
    rw [rl_subI (by rw [nI_toInt (by omega : z < 2 ^ 31)]; omega) (by rw [nI_toInt (by omega : z < 2 ^ 31)]; omega), nI_toInt (by omega : z < 2 ^ 31)]
    omega
theorem pu_cvM_iff {z y : Nat} (hz : z ≤ 40) (hy : y ≤ 40) {i j n : Int32} : pu_cvM z y i j n = true ↔ 0 ≤ i.toInt ∧ 0 ≤ j.toInt ∧ 0 ≤ n.toInt ∧ i.toInt + n.toInt ≤ (z : Int) ∧ j.toInt + n.toInt ≤ (y : Int) := by
  unfold pu_cvM
  rw [decide_eq_true_iff, Int32.lt_iff_toInt_lt, Int32.lt_iff_toInt_lt, Int32.lt_iff_toInt_lt, Int32.lt_iff_toInt_lt, Int32.le_iff_toInt_le, rl_z0]
  have hn := rl_rng n
  by_cases h0 : 0 ≤ n.toInt
  · rw [rl_subI (x := nI z) (by rw [nI_toInt (by omega : z < 2 ^ 31)]; omega) (by rw [nI_toInt (by omega : z < 2 ^ 31)]; omega), rl_subI (x := nI y) (by rw [nI_toInt (by omega : y < 2 ^ 31)]; omega) (by rw [nI_toInt (by omega : y < 2 ^ 31)]; omega), nI_toInt (by omega : z < 2 ^ 31), nI_toInt (by omega : y < 2 ^ 31)]
    omega
  · constructor
    · rintro ⟨h1, -⟩; omega
    · rintro ⟨-, -, h1, -⟩; omega
theorem pu_cvT_iff {z : Nat} (hz : z ≤ 40) {a n : Int32} (hn : 0 ≤ n.toInt) : pu_cvT z a n = true ↔ 0 ≤ a.toInt ∧ a.toInt + n.toInt ≤ (z : Int) := by
  unfold pu_cvT
  have hn2 := rl_rng n
  rw [decide_eq_true_iff, Int32.lt_iff_toInt_lt, Int32.le_iff_toInt_le, rl_z0, rl_subI (x := nI z) (by rw [nI_toInt (by omega : z < 2 ^ 31)]; omega) (by rw [nI_toInt (by omega : z < 2 ^ 31)]; omega), nI_toInt (by omega : z < 2 ^ 31)]
  omega
theorem rl_bb {a b : Bool} (h : a = true ↔ b = true) : a = b := by
  cases a <;> cases b
  · rfl
  · exact absurd (h.mpr rfl) (by decide)
  · exact absurd (h.mp rfl) (by decide)
  · rfl
theorem pu_cv_cvM {z y : Nat} (hz : z ≤ 40) (hy : y ≤ 40) {i j n : Int32} : (pu_cv z i n && pu_cv y j n) = pu_cvM z y i j n := by
  apply rl_bb
  rw [Bool.and_eq_true, pu_cv_iff hz, pu_cv_iff hy, pu_cvM_iff hz hy]
  constructor
  · rintro ⟨⟨a, b, c⟩, d, e, f⟩; exact ⟨a, d, b, c, f⟩
  · rintro ⟨a, b, c, d, e⟩; exact ⟨⟨a, c, d⟩, b, c, e⟩
theorem pu_cv_cvT {z : Nat} (hz : z ≤ 40) {a n : Int32} (hn : 0 ≤ n.toInt) : pu_cv z a n = pu_cvT z a n := by
  apply rl_bb
  rw [pu_cv_iff hz, pu_cvT_iff hz hn]
  exact ⟨fun h => ⟨h.1, h.2.2⟩, fun h => ⟨h.1, hn, h.2⟩⟩
theorem rl_nat {x : Int32} (h : 0 ≤ x.toInt) (h2 : x.toInt < 2147483648) : ∃ k, x = nI k ∧ (k : Int) = x.toInt := by
  obtain ⟨k, hk, e⟩ := am_in_nI (x := x) (n := 2 ^ 31) (am_in_iff.mpr ⟨h, by omega⟩)
  exact ⟨k, e, by rw [e, nI_toInt (by omega)]⟩
theorem rl_zero (q : Nat) (f : Nat → Int32) (p : Nat) : ∀ n, am_it (fun i F => upd F (q + i) 0) f n p = if q ≤ p ∧ p < q + n then 0 else f p := by
  intro n
  induction n with
  | zero => rw [if_neg (by omega)]; rfl
  | succ n ih =>
    rw [am_itS]
    show upd (am_it (fun i F => upd F (q + i) 0) f n) (q + n) 0 p = _
    by_cases e : p = q + n
    · rw [e, pu_upl, if_pos (by omega)]
    · rw [pu_upn e, ih]
      by_cases h : q ≤ p ∧ p < q + n
      · rw [if_pos h, if_pos (by omega)]
      · rw [if_neg h, if_neg (by omega)]
theorem rl_dnc (q r : Nat) (f : Nat → Int32) (c : Nat) (hc : ∀ k l, k < c → l < k → ¬ q + k = r + l) (p : Nat) : ∀ n, n ≤ c → am_it (fun k F => upd F (r + k) (F (q + k))) f n p = if r ≤ p ∧ p < r + n then f (q + (p - r)) else f p := by
  intro n
  induction n generalizing p with
  | zero => intro _; rw [if_neg (by omega)]; rfl
  | succ n ih =>
    intro hn
    rw [am_itS]
    show upd (am_it (fun k F => upd F (r + k) (F (q + k))) f n) (r + n) (am_it (fun k F => upd F (r + k) (F (q + k))) f n (q + n)) p = _
    by_cases e : p = r + n
    · rw [e, pu_upl, if_pos (by omega), ih _ (by omega), if_neg (fun g => hc n (q + n - r) (by omega) (by omega) (by omega)), show q + (r + n - r) = q + n by omega]
    · rw [pu_upn e, ih _ (by omega)]
      by_cases h : r ≤ p ∧ p < r + n
      · rw [if_pos h, if_pos (by omega)]
      · rw [if_neg h, if_neg (by omega)]
theorem rl_upc (q r c : Nat) (f : Nat → Int32) (hqr : q < r) (p : Nat) : ∀ n, n ≤ c → am_it (fun k F => upd F (r + (c - 1 - k)) (F (q + (c - 1 - k)))) f n p = if r + (c - n) ≤ p ∧ p < r + c then f (q + (p - r)) else f p := by
  intro n
  induction n generalizing p with
  | zero => intro _; rw [if_neg (by omega)]; rfl
  | succ n ih =>
    intro hn
    rw [am_itS]
    show upd (am_it (fun k F => upd F (r + (c - 1 - k)) (F (q + (c - 1 - k)))) f n) (r + (c - 1 - n)) (am_it (fun k F => upd F (r + (c - 1 - k)) (F (q + (c - 1 - k)))) f n (q + (c - 1 - n))) p = _
    by_cases e : p = r + (c - 1 - n)
    · rw [e, pu_upl, if_pos (by omega), ih _ (by omega), if_neg (by omega), show q + (r + (c - 1 - n) - r) = q + (c - 1 - n) by omega]
    · rw [pu_upn e, ih _ (by omega)]
      by_cases h : r + (c - n) ≤ p ∧ p < r + c
      · rw [if_pos h, if_pos (by omega)]
      · rw [if_neg h, if_neg (by omega)]
theorem rl_lt0 {x : Int32} {k : Nat} (hk : k < 2 ^ 31) (e : x = nI k) : ¬ x < 0 := by rw [e]; exact nI_pos hk
theorem rl_k3 {k : Int32} (h : am_in1 k 3 = true) (hk : ¬ k = -1) : ∃ q, q < 3 ∧ k = nI q := (rl_pl h).resolve_left hk
section OS
variable {xs : Nat → Int32} {LL : Nat} {σ τ μ : Nat → Nat → Int32} {sr : Nat → Nat} {ln lm : Nat → Nat → Int32} {Lc O T : Nat}
theorem rl_shk (h : rl_shs σ μ) {s : Nat} (hs : s < 4) : rl_she σ μ s := by
  match s, hs with
  | 0, _ => exact h.1
  | 1, _ => exact h.2.1
  | 2, _ => exact h.2.2.1
  | 3, _ => exact h.2.2.2
theorem rl_sh33 (h : rl_shs σ μ) {s : Nat} (hs : s < 4) : (σ (51 + 3 * s) 0 = -1 ∧ μ 33 s = 0) ∨ (¬ σ (51 + 3 * s) 0 = -1 ∧ μ 33 s = 1 ∧ μ 34 s = σ (51 + 3 * s) 0 ∧ ∃ q, q < 3 ∧ σ (51 + 3 * s) 0 = nI q) := by
  rcases (rl_shk h hs).1 with g | ⟨q, hq, e1, e2, e3⟩
  · exact Or.inl g
  · exact Or.inr ⟨by rw [e1]; exact nI_m1 (by omega), e2, e3.trans e1.symm, q, hq, e1⟩
theorem op_sheet_0 (h : rl_ σ sr ln Lc μ O T) (k n : Int32) (hk3 : am_in1 k 3 = true) : op_I xs LL 117 203 [.int (nI 0), .int k, .int n] σ sr ln Lc μ := by
  have h' := h
  obtain ⟨hWF, hRK, hRL, hRO, hT, hM, hS, h10, h20⟩ := h'
  have hz : ∀ p, am_it (fun i F => upd F (40 * 0 + i) 0) (μ 36) 40 p = if 40 * 0 ≤ p ∧ p < 40 * 0 + 40 then 0 else μ 36 p := fun p => rl_zero (40 * 0) (μ 36) p 40
  by_cases hk : k = -1
  · subst hk
    refine ⟨_, _, _, _, _, _, O, T, sp_X11_sheet_0m 8 n, sp_X12_sheet_m 8 0 (by decide) n, hWF, hRK, hRL, hRO, hT, hM, ?_, rl_set_fr (σ := σ) rfl rfl rfl rfl rfl rfl rfl rfl rfl h10, rl_set_fr (σ := σ) rfl rfl rfl rfl rfl rfl rfl rfl rfl h20⟩
    refine ⟨?_, ?_, ?_, ?_⟩
    · refine ⟨Or.inl ⟨rfl, rfl⟩, ⟨0, by decide, rfl, rfl⟩, fun i hi => ?_⟩
      show am_it (fun i F => upd F (40 * 0 + i) 0) (μ 36) 40 (40 * 0 + i) = am_fill (fun _ => 0) (σ 50) 40 0 i
      rw [hz, if_pos (by omega)]
      exact (if_pos ⟨Nat.zero_le _, hi⟩).symm
    · obtain ⟨g1, g2, g3⟩ := hS.2.1
      refine ⟨g1, g2, fun i hi => ?_⟩
      show am_it (fun i F => upd F (40 * 0 + i) 0) (μ 36) 40 (40 * 1 + i) = σ 53 i
      rw [hz, if_neg (by omega)]
      exact g3 i hi
    · obtain ⟨g1, g2, g3⟩ := hS.2.2.1
      refine ⟨g1, g2, fun i hi => ?_⟩
      show am_it (fun i F => upd F (40 * 0 + i) 0) (μ 36) 40 (40 * 2 + i) = σ 56 i
      rw [hz, if_neg (by omega)]
      exact g3 i hi
    · obtain ⟨g1, g2, g3⟩ := hS.2.2.2
      refine ⟨g1, g2, fun i hi => ?_⟩
      show am_it (fun i F => upd F (40 * 0 + i) 0) (μ 36) 40 (40 * 3 + i) = σ 59 i
      rw [hz, if_neg (by omega)]
      exact g3 i hi
  · obtain ⟨q, hq, rfl⟩ := rl_k3 hk3 hk
    have hk0 : ¬ nI q < 0 := nI_pos (by omega)
    by_cases hn : n ≤ 40
    · by_cases hn0 : 0 ≤ n
      · obtain ⟨z, hz40, rfl⟩ : ∃ z, z < 41 ∧ n = nI z := am_in_nI (am_in_iff.mpr ⟨by have := Int32.le_iff_toInt_le.mp hn0; rw [rl_z0] at this; omega, by have := Int32.le_iff_toInt_le.mp hn; rw [show (40 : Int32).toInt = 40 by decide] at this; omega⟩)
        refine ⟨_, _, _, _, _, _, O, T, sp_X11_sheet_0q 8 (nI q) (nI z) hk3 hk hn hn0, sp_X12_sheet_q 8 0 (by decide) (nI q) (nI z) hk3 hk0 hn hn0, hWF, hRK, hRL, hRO, hT, hM, ?_, rl_set_fr (σ := σ) rfl rfl rfl rfl rfl rfl rfl rfl rfl h10, rl_set_fr (σ := σ) rfl rfl rfl rfl rfl rfl rfl rfl rfl h20⟩
        refine ⟨?_, ?_, ?_, ?_⟩
        · refine ⟨Or.inr ⟨q, hq, rfl, rfl, rfl⟩, ⟨z, by omega, rfl, rfl⟩, fun i hi => ?_⟩
          show am_it (fun i F => upd F (40 * 0 + i) 0) (μ 36) 40 (40 * 0 + i) = am_fill (fun _ => 0) (σ 50) 40 0 i
          rw [hz, if_pos (by omega)]
          exact (if_pos ⟨Nat.zero_le _, hi⟩).symm
        · obtain ⟨g1, g2, g3⟩ := hS.2.1
          refine ⟨g1, g2, fun i hi => ?_⟩
          show am_it (fun i F => upd F (40 * 0 + i) 0) (μ 36) 40 (40 * 1 + i) = σ 53 i
          rw [hz, if_neg (by omega)]
          exact g3 i hi
        · obtain ⟨g1, g2, g3⟩ := hS.2.2.1
          refine ⟨g1, g2, fun i hi => ?_⟩
          show am_it (fun i F => upd F (40 * 0 + i) 0) (μ 36) 40 (40 * 2 + i) = σ 56 i
          rw [hz, if_neg (by omega)]
          exact g3 i hi
        · obtain ⟨g1, g2, g3⟩ := hS.2.2.2
          refine ⟨g1, g2, fun i hi => ?_⟩
          show am_it (fun i F => upd F (40 * 0 + i) 0) (μ 36) 40 (40 * 3 + i) = σ 59 i
          rw [hz, if_neg (by omega)]
          exact g3 i hi
      · exact op_same h (-14) (sp_X11_sheet_0neg 8 (nI q) n hk3 hk hn hn0) (sp_X12_sheet_neg 8 0 (by decide) (nI q) n hk3 hk0 hn hn0)
    · exact op_same h (-2) (sp_X11_sheet_0big 8 (nI q) n hk3 hk hn) (sp_X12_sheet_big 8 0 (by decide) (nI q) n hk3 hk0 hn)
theorem op_sheet_1 (h : rl_ σ sr ln Lc μ O T) (k n : Int32) (hk3 : am_in1 k 3 = true) : op_I xs LL 117 203 [.int (nI 1), .int k, .int n] σ sr ln Lc μ := by
  have h' := h
  obtain ⟨hWF, hRK, hRL, hRO, hT, hM, hS, h10, h20⟩ := h'
  have hz : ∀ p, am_it (fun i F => upd F (40 * 1 + i) 0) (μ 36) 40 p = if 40 * 1 ≤ p ∧ p < 40 * 1 + 40 then 0 else μ 36 p := fun p => rl_zero (40 * 1) (μ 36) p 40
  by_cases hk : k = -1
  · subst hk
    refine ⟨_, _, _, _, _, _, O, T, sp_X11_sheet_1m 8 n, sp_X12_sheet_m 8 1 (by decide) n, hWF, hRK, hRL, hRO, hT, hM, ?_, rl_set_fr (σ := σ) rfl rfl rfl rfl rfl rfl rfl rfl rfl h10, rl_set_fr (σ := σ) rfl rfl rfl rfl rfl rfl rfl rfl rfl h20⟩
    refine ⟨?_, ?_, ?_, ?_⟩
    · obtain ⟨g1, g2, g3⟩ := hS.1
      refine ⟨g1, g2, fun i hi => ?_⟩
      show am_it (fun i F => upd F (40 * 1 + i) 0) (μ 36) 40 (40 * 0 + i) = σ 50 i
      rw [hz, if_neg (by omega)]
      exact g3 i hi
    · refine ⟨Or.inl ⟨rfl, rfl⟩, ⟨0, by decide, rfl, rfl⟩, fun i hi => ?_⟩
      show am_it (fun i F => upd F (40 * 1 + i) 0) (μ 36) 40 (40 * 1 + i) = am_fill (fun _ => 0) (σ 53) 40 0 i
      rw [hz, if_pos (by omega)]
      exact (if_pos ⟨Nat.zero_le _, hi⟩).symm
    · obtain ⟨g1, g2, g3⟩ := hS.2.2.1
      refine ⟨g1, g2, fun i hi => ?_⟩
      show am_it (fun i F => upd F (40 * 1 + i) 0) (μ 36) 40 (40 * 2 + i) = σ 56 i
      rw [hz, if_neg (by omega)]
      exact g3 i hi
    · obtain ⟨g1, g2, g3⟩ := hS.2.2.2
      refine ⟨g1, g2, fun i hi => ?_⟩
      show am_it (fun i F => upd F (40 * 1 + i) 0) (μ 36) 40 (40 * 3 + i) = σ 59 i
      rw [hz, if_neg (by omega)]
      exact g3 i hi
  · obtain ⟨q, hq, rfl⟩ := rl_k3 hk3 hk
    have hk0 : ¬ nI q < 0 := nI_pos (by omega)
    by_cases hn : n ≤ 40
    · by_cases hn0 : 0 ≤ n
      · obtain ⟨z, hz40, rfl⟩ : ∃ z, z < 41 ∧ n = nI z := am_in_nI (am_in_iff.mpr ⟨by have := Int32.le_iff_toInt_le.mp hn0; rw [rl_z0] at this; omega, by have := Int32.le_iff_toInt_le.mp hn; rw [show (40 : Int32).toInt = 40 by decide] at this; omega⟩)
        refine ⟨_, _, _, _, _, _, O, T, sp_X11_sheet_1q 8 (nI q) (nI z) hk3 hk hn hn0, sp_X12_sheet_q 8 1 (by decide) (nI q) (nI z) hk3 hk0 hn hn0, hWF, hRK, hRL, hRO, hT, hM, ?_, rl_set_fr (σ := σ) rfl rfl rfl rfl rfl rfl rfl rfl rfl h10, rl_set_fr (σ := σ) rfl rfl rfl rfl rfl rfl rfl rfl rfl h20⟩
        refine ⟨?_, ?_, ?_, ?_⟩
        · obtain ⟨g1, g2, g3⟩ := hS.1
          refine ⟨g1, g2, fun i hi => ?_⟩
          show am_it (fun i F => upd F (40 * 1 + i) 0) (μ 36) 40 (40 * 0 + i) = σ 50 i
          rw [hz, if_neg (by omega)]
          exact g3 i hi
        · refine ⟨Or.inr ⟨q, hq, rfl, rfl, rfl⟩, ⟨z, by omega, rfl, rfl⟩, fun i hi => ?_⟩
          show am_it (fun i F => upd F (40 * 1 + i) 0) (μ 36) 40 (40 * 1 + i) = am_fill (fun _ => 0) (σ 53) 40 0 i
          rw [hz, if_pos (by omega)]
          exact (if_pos ⟨Nat.zero_le _, hi⟩).symm
        · obtain ⟨g1, g2, g3⟩ := hS.2.2.1
          refine ⟨g1, g2, fun i hi => ?_⟩
          show am_it (fun i F => upd F (40 * 1 + i) 0) (μ 36) 40 (40 * 2 + i) = σ 56 i
          rw [hz, if_neg (by omega)]
          exact g3 i hi
        · obtain ⟨g1, g2, g3⟩ := hS.2.2.2
          refine ⟨g1, g2, fun i hi => ?_⟩
          show am_it (fun i F => upd F (40 * 1 + i) 0) (μ 36) 40 (40 * 3 + i) = σ 59 i
          rw [hz, if_neg (by omega)]
          exact g3 i hi
      · exact op_same h (-14) (sp_X11_sheet_1neg 8 (nI q) n hk3 hk hn hn0) (sp_X12_sheet_neg 8 1 (by decide) (nI q) n hk3 hk0 hn hn0)
    · exact op_same h (-2) (sp_X11_sheet_1big 8 (nI q) n hk3 hk hn) (sp_X12_sheet_big 8 1 (by decide) (nI q) n hk3 hk0 hn)
theorem op_sheet_2 (h : rl_ σ sr ln Lc μ O T) (k n : Int32) (hk3 : am_in1 k 3 = true) : op_I xs LL 117 203 [.int (nI 2), .int k, .int n] σ sr ln Lc μ := by
  have h' := h
  obtain ⟨hWF, hRK, hRL, hRO, hT, hM, hS, h10, h20⟩ := h'
  have hz : ∀ p, am_it (fun i F => upd F (40 * 2 + i) 0) (μ 36) 40 p = if 40 * 2 ≤ p ∧ p < 40 * 2 + 40 then 0 else μ 36 p := fun p => rl_zero (40 * 2) (μ 36) p 40
  by_cases hk : k = -1
  · subst hk
    refine ⟨_, _, _, _, _, _, O, T, sp_X11_sheet_2m 8 n, sp_X12_sheet_m 8 2 (by decide) n, hWF, hRK, hRL, hRO, hT, hM, ?_, rl_set_fr (σ := σ) rfl rfl rfl rfl rfl rfl rfl rfl rfl h10, rl_set_fr (σ := σ) rfl rfl rfl rfl rfl rfl rfl rfl rfl h20⟩
    refine ⟨?_, ?_, ?_, ?_⟩
    · obtain ⟨g1, g2, g3⟩ := hS.1
      refine ⟨g1, g2, fun i hi => ?_⟩
      show am_it (fun i F => upd F (40 * 2 + i) 0) (μ 36) 40 (40 * 0 + i) = σ 50 i
      rw [hz, if_neg (by omega)]
      exact g3 i hi
    · obtain ⟨g1, g2, g3⟩ := hS.2.1
      refine ⟨g1, g2, fun i hi => ?_⟩
      show am_it (fun i F => upd F (40 * 2 + i) 0) (μ 36) 40 (40 * 1 + i) = σ 53 i
      rw [hz, if_neg (by omega)]
      exact g3 i hi
    · refine ⟨Or.inl ⟨rfl, rfl⟩, ⟨0, by decide, rfl, rfl⟩, fun i hi => ?_⟩
      show am_it (fun i F => upd F (40 * 2 + i) 0) (μ 36) 40 (40 * 2 + i) = am_fill (fun _ => 0) (σ 56) 40 0 i
      rw [hz, if_pos (by omega)]
      exact (if_pos ⟨Nat.zero_le _, hi⟩).symm
    · obtain ⟨g1, g2, g3⟩ := hS.2.2.2
      refine ⟨g1, g2, fun i hi => ?_⟩
      show am_it (fun i F => upd F (40 * 2 + i) 0) (μ 36) 40 (40 * 3 + i) = σ 59 i
      rw [hz, if_neg (by omega)]
      exact g3 i hi
  · obtain ⟨q, hq, rfl⟩ := rl_k3 hk3 hk
    have hk0 : ¬ nI q < 0 := nI_pos (by omega)
    by_cases hn : n ≤ 40
    · by_cases hn0 : 0 ≤ n
      · obtain ⟨z, hz40, rfl⟩ : ∃ z, z < 41 ∧ n = nI z := am_in_nI (am_in_iff.mpr ⟨by have := Int32.le_iff_toInt_le.mp hn0; rw [rl_z0] at this; omega, by have := Int32.le_iff_toInt_le.mp hn; rw [show (40 : Int32).toInt = 40 by decide] at this; omega⟩)
        refine ⟨_, _, _, _, _, _, O, T, sp_X11_sheet_2q 8 (nI q) (nI z) hk3 hk hn hn0, sp_X12_sheet_q 8 2 (by decide) (nI q) (nI z) hk3 hk0 hn hn0, hWF, hRK, hRL, hRO, hT, hM, ?_, rl_set_fr (σ := σ) rfl rfl rfl rfl rfl rfl rfl rfl rfl h10, rl_set_fr (σ := σ) rfl rfl rfl rfl rfl rfl rfl rfl rfl h20⟩
        refine ⟨?_, ?_, ?_, ?_⟩
        · obtain ⟨g1, g2, g3⟩ := hS.1
          refine ⟨g1, g2, fun i hi => ?_⟩
          show am_it (fun i F => upd F (40 * 2 + i) 0) (μ 36) 40 (40 * 0 + i) = σ 50 i
          rw [hz, if_neg (by omega)]
          exact g3 i hi
        · obtain ⟨g1, g2, g3⟩ := hS.2.1
          refine ⟨g1, g2, fun i hi => ?_⟩
          show am_it (fun i F => upd F (40 * 2 + i) 0) (μ 36) 40 (40 * 1 + i) = σ 53 i
          rw [hz, if_neg (by omega)]
          exact g3 i hi
        · refine ⟨Or.inr ⟨q, hq, rfl, rfl, rfl⟩, ⟨z, by omega, rfl, rfl⟩, fun i hi => ?_⟩
          show am_it (fun i F => upd F (40 * 2 + i) 0) (μ 36) 40 (40 * 2 + i) = am_fill (fun _ => 0) (σ 56) 40 0 i
          rw [hz, if_pos (by omega)]
          exact (if_pos ⟨Nat.zero_le _, hi⟩).symm
        · obtain ⟨g1, g2, g3⟩ := hS.2.2.2
          refine ⟨g1, g2, fun i hi => ?_⟩
          show am_it (fun i F => upd F (40 * 2 + i) 0) (μ 36) 40 (40 * 3 + i) = σ 59 i
          rw [hz, if_neg (by omega)]
          exact g3 i hi
      · exact op_same h (-14) (sp_X11_sheet_2neg 8 (nI q) n hk3 hk hn hn0) (sp_X12_sheet_neg 8 2 (by decide) (nI q) n hk3 hk0 hn hn0)
    · exact op_same h (-2) (sp_X11_sheet_2big 8 (nI q) n hk3 hk hn) (sp_X12_sheet_big 8 2 (by decide) (nI q) n hk3 hk0 hn)
theorem op_sheet_3 (h : rl_ σ sr ln Lc μ O T) (k n : Int32) (hk3 : am_in1 k 3 = true) : op_I xs LL 117 203 [.int (nI 3), .int k, .int n] σ sr ln Lc μ := by
  have h' := h
  obtain ⟨hWF, hRK, hRL, hRO, hT, hM, hS, h10, h20⟩ := h'
  have hz : ∀ p, am_it (fun i F => upd F (40 * 3 + i) 0) (μ 36) 40 p = if 40 * 3 ≤ p ∧ p < 40 * 3 + 40 then 0 else μ 36 p := fun p => rl_zero (40 * 3) (μ 36) p 40
  by_cases hk : k = -1
  · subst hk
    refine ⟨_, _, _, _, _, _, O, T, sp_X11_sheet_3m 8 n, sp_X12_sheet_m 8 3 (by decide) n, hWF, hRK, hRL, hRO, hT, hM, ?_, rl_set_fr (σ := σ) rfl rfl rfl rfl rfl rfl rfl rfl rfl h10, rl_set_fr (σ := σ) rfl rfl rfl rfl rfl rfl rfl rfl rfl h20⟩
    refine ⟨?_, ?_, ?_, ?_⟩
    · obtain ⟨g1, g2, g3⟩ := hS.1
      refine ⟨g1, g2, fun i hi => ?_⟩
      show am_it (fun i F => upd F (40 * 3 + i) 0) (μ 36) 40 (40 * 0 + i) = σ 50 i
      rw [hz, if_neg (by omega)]
      exact g3 i hi
    · obtain ⟨g1, g2, g3⟩ := hS.2.1
      refine ⟨g1, g2, fun i hi => ?_⟩
      show am_it (fun i F => upd F (40 * 3 + i) 0) (μ 36) 40 (40 * 1 + i) = σ 53 i
      rw [hz, if_neg (by omega)]
      exact g3 i hi
    · obtain ⟨g1, g2, g3⟩ := hS.2.2.1
      refine ⟨g1, g2, fun i hi => ?_⟩
      show am_it (fun i F => upd F (40 * 3 + i) 0) (μ 36) 40 (40 * 2 + i) = σ 56 i
      rw [hz, if_neg (by omega)]
      exact g3 i hi
    · refine ⟨Or.inl ⟨rfl, rfl⟩, ⟨0, by decide, rfl, rfl⟩, fun i hi => ?_⟩
      show am_it (fun i F => upd F (40 * 3 + i) 0) (μ 36) 40 (40 * 3 + i) = am_fill (fun _ => 0) (σ 59) 40 0 i
      rw [hz, if_pos (by omega)]
      exact (if_pos ⟨Nat.zero_le _, hi⟩).symm
  · obtain ⟨q, hq, rfl⟩ := rl_k3 hk3 hk
    have hk0 : ¬ nI q < 0 := nI_pos (by omega)
    by_cases hn : n ≤ 40
    · by_cases hn0 : 0 ≤ n
      · obtain ⟨z, hz40, rfl⟩ : ∃ z, z < 41 ∧ n = nI z := am_in_nI (am_in_iff.mpr ⟨by have := Int32.le_iff_toInt_le.mp hn0; rw [rl_z0] at this; omega, by have := Int32.le_iff_toInt_le.mp hn; rw [show (40 : Int32).toInt = 40 by decide] at this; omega⟩)
        refine ⟨_, _, _, _, _, _, O, T, sp_X11_sheet_3q 8 (nI q) (nI z) hk3 hk hn hn0, sp_X12_sheet_q 8 3 (by decide) (nI q) (nI z) hk3 hk0 hn hn0, hWF, hRK, hRL, hRO, hT, hM, ?_, rl_set_fr (σ := σ) rfl rfl rfl rfl rfl rfl rfl rfl rfl h10, rl_set_fr (σ := σ) rfl rfl rfl rfl rfl rfl rfl rfl rfl h20⟩
        refine ⟨?_, ?_, ?_, ?_⟩
        · obtain ⟨g1, g2, g3⟩ := hS.1
          refine ⟨g1, g2, fun i hi => ?_⟩
          show am_it (fun i F => upd F (40 * 3 + i) 0) (μ 36) 40 (40 * 0 + i) = σ 50 i
          rw [hz, if_neg (by omega)]
          exact g3 i hi
        · obtain ⟨g1, g2, g3⟩ := hS.2.1
          refine ⟨g1, g2, fun i hi => ?_⟩
          show am_it (fun i F => upd F (40 * 3 + i) 0) (μ 36) 40 (40 * 1 + i) = σ 53 i
          rw [hz, if_neg (by omega)]
          exact g3 i hi
        · obtain ⟨g1, g2, g3⟩ := hS.2.2.1
          refine ⟨g1, g2, fun i hi => ?_⟩
          show am_it (fun i F => upd F (40 * 3 + i) 0) (μ 36) 40 (40 * 2 + i) = σ 56 i
          rw [hz, if_neg (by omega)]
          exact g3 i hi
        · refine ⟨Or.inr ⟨q, hq, rfl, rfl, rfl⟩, ⟨z, by omega, rfl, rfl⟩, fun i hi => ?_⟩
          show am_it (fun i F => upd F (40 * 3 + i) 0) (μ 36) 40 (40 * 3 + i) = am_fill (fun _ => 0) (σ 59) 40 0 i
          rw [hz, if_pos (by omega)]
          exact (if_pos ⟨Nat.zero_le _, hi⟩).symm
      · exact op_same h (-14) (sp_X11_sheet_3neg 8 (nI q) n hk3 hk hn hn0) (sp_X12_sheet_neg 8 3 (by decide) (nI q) n hk3 hk0 hn hn0)
    · exact op_same h (-2) (sp_X11_sheet_3big 8 (nI q) n hk3 hk hn) (sp_X12_sheet_big 8 3 (by decide) (nI q) n hk3 hk0 hn)
theorem op_sheet (h : rl_ σ sr ln Lc μ O T) (s k n : Int32) : op_I xs LL 117 203 [.int s, .int k, .int n] σ sr ln Lc μ := by
  cases e : am_in s 4 with
  | false => exact op_same h (-2) (sp_X11_sheet_no 9 s k n e) (sp_X12_sheet_no 8 s k n e)
  | true =>
    obtain ⟨s, hs, rfl⟩ := am_in_nI e
    cases hk3 : am_in1 k 3 with
    | false =>
      match s, hs with
      | 0, _ => exact op_same h (-2) (sp_X11_sheet_0bad 8 k n hk3) (sp_X12_sheet_bad 8 0 (by decide) k n hk3)
      | 1, _ => exact op_same h (-2) (sp_X11_sheet_1bad 8 k n hk3) (sp_X12_sheet_bad 8 1 (by decide) k n hk3)
      | 2, _ => exact op_same h (-2) (sp_X11_sheet_2bad 8 k n hk3) (sp_X12_sheet_bad 8 2 (by decide) k n hk3)
      | 3, _ => exact op_same h (-2) (sp_X11_sheet_3bad 8 k n hk3) (sp_X12_sheet_bad 8 3 (by decide) k n hk3)
    | true =>
      match s, hs with
      | 0, _ => exact op_sheet_0 h k n hk3
      | 1, _ => exact op_sheet_1 h k n hk3
      | 2, _ => exact op_sheet_2 h k n hk3
      | 3, _ => exact op_sheet_3 h k n hk3
theorem rl_cell_0 {i : Nat} (hi : i < 40) {w : Int32} (hS : rl_shs σ μ) : rl_shs (am_up σ 50 (upd (σ 50) i w)) (am_up μ 36 (upd (μ 36) ((40 * 0) + i) w)) := by
  refine ⟨?_, ?_, ?_, ?_⟩
  · obtain ⟨g1, g2, g3⟩ := hS.1
    refine ⟨g1, g2, fun j hj => ?_⟩
    show upd (μ 36) ((40 * 0) + i) w (40 * 0 + j) = upd (σ 50) i w j
    by_cases e : j = i
    · rw [e, pu_upl, pu_upl]
    · rw [pu_upn e, pu_upn (by omega)]; exact g3 j hj
  · obtain ⟨g1, g2, g3⟩ := hS.2.1
    refine ⟨g1, g2, fun j hj => ?_⟩
    show upd (μ 36) ((40 * 0) + i) w (40 * 1 + j) = σ 53 j
    rw [pu_upn (by omega)]; exact g3 j hj
  · obtain ⟨g1, g2, g3⟩ := hS.2.2.1
    refine ⟨g1, g2, fun j hj => ?_⟩
    show upd (μ 36) ((40 * 0) + i) w (40 * 2 + j) = σ 56 j
    rw [pu_upn (by omega)]; exact g3 j hj
  · obtain ⟨g1, g2, g3⟩ := hS.2.2.2
    refine ⟨g1, g2, fun j hj => ?_⟩
    show upd (μ 36) ((40 * 0) + i) w (40 * 3 + j) = σ 59 j
    rw [pu_upn (by omega)]; exact g3 j hj
theorem op_cell_0 (h : rl_ σ sr ln Lc μ O T) (i v : Int32) : op_I xs LL 118 204 [.int (nI 0), .int i, .int v] σ sr ln Lc μ := by
  have h' := h
  obtain ⟨hWF, hRK, hRL, hRO, hT, hM, hS, h10, h20⟩ := h'
  obtain ⟨z, hz40, hz, hzm⟩ := (rl_shk hS (s := 0) (by decide)).2.1
  rcases rl_sh33 hS (s := 0) (by decide) with ⟨g1, g2⟩ | ⟨g1, g2, g3, q, hq, g4⟩
  · exact op_same h (-11) (sp_X11_cell_0m 9 i v g1) (sp_X12_cell_m 8 0 (by decide) i v g2)
  · cases hc : pu_cv z i 1 with
    | false =>
      refine op_same h (-12) (sp_X11_cell_0o 9 i v g1 hz hz40 hc) (sp_X12_cell_o 8 0 (by decide) i v g2 hzm hz40 ?_)
      cases e : am_in i z with
      | false => rfl
      | true =>
        have e := am_in_iff.mp e
        have := (pu_cv_iff hz40 (a := i) (n := 1)).mpr ⟨e.1, by decide, by rw [show (1 : Int32).toInt = 1 by decide]; omega⟩
        rw [hc] at this; cases this
    | true =>
      have hc2 := (pu_cv_iff hz40).mp hc
      rw [show (1 : Int32).toInt = 1 by decide] at hc2
      obtain ⟨i, hi, rfl⟩ : ∃ k, k < z ∧ i = nI k := am_in_nI (am_in_iff.mpr ⟨hc2.1, by omega⟩)
      match q, hq with
      | 0, _ => exact ⟨_, _, _, _, _, _, O, T, sp_X11_cell_0q0 9 hz hz40 i hi v g4 hc, sp_X12_cell_q0 8 0 (by decide) i v g2 hzm hz40 hi (g3.trans g4), hWF, hRK, hRL, hRO, hT, hM, rl_cell_0 (by omega) hS, rl_set_fr (σ := σ) rfl rfl rfl rfl rfl rfl rfl rfl rfl h10, rl_set_fr (σ := σ) rfl rfl rfl rfl rfl rfl rfl rfl rfl h20⟩
      | 1, _ => exact ⟨_, _, _, _, _, _, O, T, sp_X11_cell_0q1 9 hz hz40 i hi v g4 hc, sp_X12_cell_q1 8 0 (by decide) i v g2 hzm hz40 hi (g3.trans g4), hWF, hRK, hRL, hRO, hT, hM, rl_cell_0 (by omega) hS, rl_set_fr (σ := σ) rfl rfl rfl rfl rfl rfl rfl rfl rfl h10, rl_set_fr (σ := σ) rfl rfl rfl rfl rfl rfl rfl rfl rfl h20⟩
      | 2, _ => exact ⟨_, _, _, _, _, _, O, T, sp_X11_cell_0q2 9 hz hz40 i hi v g4 hc, sp_X12_cell_q2 8 0 (by decide) i v g2 hzm hz40 hi (g3.trans g4), hWF, hRK, hRL, hRO, hT, hM, rl_cell_0 (by omega) hS, rl_set_fr (σ := σ) rfl rfl rfl rfl rfl rfl rfl rfl rfl h10, rl_set_fr (σ := σ) rfl rfl rfl rfl rfl rfl rfl rfl rfl h20⟩
theorem rl_cell_1 {i : Nat} (hi : i < 40) {w : Int32} (hS : rl_shs σ μ) : rl_shs (am_up σ 53 (upd (σ 53) i w)) (am_up μ 36 (upd (μ 36) ((40 * 1) + i) w)) := by
  refine ⟨?_, ?_, ?_, ?_⟩
  · obtain ⟨g1, g2, g3⟩ := hS.1
    refine ⟨g1, g2, fun j hj => ?_⟩
    show upd (μ 36) ((40 * 1) + i) w (40 * 0 + j) = σ 50 j
    rw [pu_upn (by omega)]; exact g3 j hj
  · obtain ⟨g1, g2, g3⟩ := hS.2.1
    refine ⟨g1, g2, fun j hj => ?_⟩
    show upd (μ 36) ((40 * 1) + i) w (40 * 1 + j) = upd (σ 53) i w j
    by_cases e : j = i
    · rw [e, pu_upl, pu_upl]
    · rw [pu_upn e, pu_upn (by omega)]; exact g3 j hj
  · obtain ⟨g1, g2, g3⟩ := hS.2.2.1
    refine ⟨g1, g2, fun j hj => ?_⟩
    show upd (μ 36) ((40 * 1) + i) w (40 * 2 + j) = σ 56 j
    rw [pu_upn (by omega)]; exact g3 j hj
  · obtain ⟨g1, g2, g3⟩ := hS.2.2.2
    refine ⟨g1, g2, fun j hj => ?_⟩
    show upd (μ 36) ((40 * 1) + i) w (40 * 3 + j) = σ 59 j
    rw [pu_upn (by omega)]; exact g3 j hj
theorem op_cell_1 (h : rl_ σ sr ln Lc μ O T) (i v : Int32) : op_I xs LL 118 204 [.int (nI 1), .int i, .int v] σ sr ln Lc μ := by
  have h' := h
  obtain ⟨hWF, hRK, hRL, hRO, hT, hM, hS, h10, h20⟩ := h'
  obtain ⟨z, hz40, hz, hzm⟩ := (rl_shk hS (s := 1) (by decide)).2.1
  rcases rl_sh33 hS (s := 1) (by decide) with ⟨g1, g2⟩ | ⟨g1, g2, g3, q, hq, g4⟩
  · exact op_same h (-11) (sp_X11_cell_1m 9 i v g1) (sp_X12_cell_m 8 1 (by decide) i v g2)
  · cases hc : pu_cv z i 1 with
    | false =>
      refine op_same h (-12) (sp_X11_cell_1o 9 i v g1 hz hz40 hc) (sp_X12_cell_o 8 1 (by decide) i v g2 hzm hz40 ?_)
      cases e : am_in i z with
      | false => rfl
      | true =>
        have e := am_in_iff.mp e
        have := (pu_cv_iff hz40 (a := i) (n := 1)).mpr ⟨e.1, by decide, by rw [show (1 : Int32).toInt = 1 by decide]; omega⟩
        rw [hc] at this; cases this
    | true =>
      have hc2 := (pu_cv_iff hz40).mp hc
      rw [show (1 : Int32).toInt = 1 by decide] at hc2
      obtain ⟨i, hi, rfl⟩ : ∃ k, k < z ∧ i = nI k := am_in_nI (am_in_iff.mpr ⟨hc2.1, by omega⟩)
      match q, hq with
      | 0, _ => exact ⟨_, _, _, _, _, _, O, T, sp_X11_cell_1q0 9 hz hz40 i hi v g4 hc, sp_X12_cell_q0 8 1 (by decide) i v g2 hzm hz40 hi (g3.trans g4), hWF, hRK, hRL, hRO, hT, hM, rl_cell_1 (by omega) hS, rl_set_fr (σ := σ) rfl rfl rfl rfl rfl rfl rfl rfl rfl h10, rl_set_fr (σ := σ) rfl rfl rfl rfl rfl rfl rfl rfl rfl h20⟩
      | 1, _ => exact ⟨_, _, _, _, _, _, O, T, sp_X11_cell_1q1 9 hz hz40 i hi v g4 hc, sp_X12_cell_q1 8 1 (by decide) i v g2 hzm hz40 hi (g3.trans g4), hWF, hRK, hRL, hRO, hT, hM, rl_cell_1 (by omega) hS, rl_set_fr (σ := σ) rfl rfl rfl rfl rfl rfl rfl rfl rfl h10, rl_set_fr (σ := σ) rfl rfl rfl rfl rfl rfl rfl rfl rfl h20⟩
      | 2, _ => exact ⟨_, _, _, _, _, _, O, T, sp_X11_cell_1q2 9 hz hz40 i hi v g4 hc, sp_X12_cell_q2 8 1 (by decide) i v g2 hzm hz40 hi (g3.trans g4), hWF, hRK, hRL, hRO, hT, hM, rl_cell_1 (by omega) hS, rl_set_fr (σ := σ) rfl rfl rfl rfl rfl rfl rfl rfl rfl h10, rl_set_fr (σ := σ) rfl rfl rfl rfl rfl rfl rfl rfl rfl h20⟩
theorem rl_cell_2 {i : Nat} (hi : i < 40) {w : Int32} (hS : rl_shs σ μ) : rl_shs (am_up σ 56 (upd (σ 56) i w)) (am_up μ 36 (upd (μ 36) ((40 * 2) + i) w)) := by
  refine ⟨?_, ?_, ?_, ?_⟩
  · obtain ⟨g1, g2, g3⟩ := hS.1
    refine ⟨g1, g2, fun j hj => ?_⟩
    show upd (μ 36) ((40 * 2) + i) w (40 * 0 + j) = σ 50 j
    rw [pu_upn (by omega)]; exact g3 j hj
  · obtain ⟨g1, g2, g3⟩ := hS.2.1
    refine ⟨g1, g2, fun j hj => ?_⟩
    show upd (μ 36) ((40 * 2) + i) w (40 * 1 + j) = σ 53 j
    rw [pu_upn (by omega)]; exact g3 j hj
  · obtain ⟨g1, g2, g3⟩ := hS.2.2.1
    refine ⟨g1, g2, fun j hj => ?_⟩
    show upd (μ 36) ((40 * 2) + i) w (40 * 2 + j) = upd (σ 56) i w j
    by_cases e : j = i
    · rw [e, pu_upl, pu_upl]
    · rw [pu_upn e, pu_upn (by omega)]; exact g3 j hj
  · obtain ⟨g1, g2, g3⟩ := hS.2.2.2
    refine ⟨g1, g2, fun j hj => ?_⟩
    show upd (μ 36) ((40 * 2) + i) w (40 * 3 + j) = σ 59 j
    rw [pu_upn (by omega)]; exact g3 j hj
theorem op_cell_2 (h : rl_ σ sr ln Lc μ O T) (i v : Int32) : op_I xs LL 118 204 [.int (nI 2), .int i, .int v] σ sr ln Lc μ := by
  have h' := h
  obtain ⟨hWF, hRK, hRL, hRO, hT, hM, hS, h10, h20⟩ := h'
  obtain ⟨z, hz40, hz, hzm⟩ := (rl_shk hS (s := 2) (by decide)).2.1
  rcases rl_sh33 hS (s := 2) (by decide) with ⟨g1, g2⟩ | ⟨g1, g2, g3, q, hq, g4⟩
  · exact op_same h (-11) (sp_X11_cell_2m 9 i v g1) (sp_X12_cell_m 8 2 (by decide) i v g2)
  · cases hc : pu_cv z i 1 with
    | false =>
      refine op_same h (-12) (sp_X11_cell_2o 9 i v g1 hz hz40 hc) (sp_X12_cell_o 8 2 (by decide) i v g2 hzm hz40 ?_)
      cases e : am_in i z with
      | false => rfl
      | true =>
        have e := am_in_iff.mp e
        have := (pu_cv_iff hz40 (a := i) (n := 1)).mpr ⟨e.1, by decide, by rw [show (1 : Int32).toInt = 1 by decide]; omega⟩
        rw [hc] at this; cases this
    | true =>
      have hc2 := (pu_cv_iff hz40).mp hc
      rw [show (1 : Int32).toInt = 1 by decide] at hc2
      obtain ⟨i, hi, rfl⟩ : ∃ k, k < z ∧ i = nI k := am_in_nI (am_in_iff.mpr ⟨hc2.1, by omega⟩)
      match q, hq with
      | 0, _ => exact ⟨_, _, _, _, _, _, O, T, sp_X11_cell_2q0 9 hz hz40 i hi v g4 hc, sp_X12_cell_q0 8 2 (by decide) i v g2 hzm hz40 hi (g3.trans g4), hWF, hRK, hRL, hRO, hT, hM, rl_cell_2 (by omega) hS, rl_set_fr (σ := σ) rfl rfl rfl rfl rfl rfl rfl rfl rfl h10, rl_set_fr (σ := σ) rfl rfl rfl rfl rfl rfl rfl rfl rfl h20⟩
      | 1, _ => exact ⟨_, _, _, _, _, _, O, T, sp_X11_cell_2q1 9 hz hz40 i hi v g4 hc, sp_X12_cell_q1 8 2 (by decide) i v g2 hzm hz40 hi (g3.trans g4), hWF, hRK, hRL, hRO, hT, hM, rl_cell_2 (by omega) hS, rl_set_fr (σ := σ) rfl rfl rfl rfl rfl rfl rfl rfl rfl h10, rl_set_fr (σ := σ) rfl rfl rfl rfl rfl rfl rfl rfl rfl h20⟩
      | 2, _ => exact ⟨_, _, _, _, _, _, O, T, sp_X11_cell_2q2 9 hz hz40 i hi v g4 hc, sp_X12_cell_q2 8 2 (by decide) i v g2 hzm hz40 hi (g3.trans g4), hWF, hRK, hRL, hRO, hT, hM, rl_cell_2 (by omega) hS, rl_set_fr (σ := σ) rfl rfl rfl rfl rfl rfl rfl rfl rfl h10, rl_set_fr (σ := σ) rfl rfl rfl rfl rfl rfl rfl rfl rfl h20⟩
theorem rl_cell_3 {i : Nat} (hi : i < 40) {w : Int32} (hS : rl_shs σ μ) : rl_shs (am_up σ 59 (upd (σ 59) i w)) (am_up μ 36 (upd (μ 36) ((40 * 3) + i) w)) := by
  refine ⟨?_, ?_, ?_, ?_⟩
  · obtain ⟨g1, g2, g3⟩ := hS.1
    refine ⟨g1, g2, fun j hj => ?_⟩
    show upd (μ 36) ((40 * 3) + i) w (40 * 0 + j) = σ 50 j
    rw [pu_upn (by omega)]; exact g3 j hj
  · obtain ⟨g1, g2, g3⟩ := hS.2.1
    refine ⟨g1, g2, fun j hj => ?_⟩
    show upd (μ 36) ((40 * 3) + i) w (40 * 1 + j) = σ 53 j
    rw [pu_upn (by omega)]; exact g3 j hj
  · obtain ⟨g1, g2, g3⟩ := hS.2.2.1
    refine ⟨g1, g2, fun j hj => ?_⟩
    show upd (μ 36) ((40 * 3) + i) w (40 * 2 + j) = σ 56 j
    rw [pu_upn (by omega)]; exact g3 j hj
  · obtain ⟨g1, g2, g3⟩ := hS.2.2.2
    refine ⟨g1, g2, fun j hj => ?_⟩
    show upd (μ 36) ((40 * 3) + i) w (40 * 3 + j) = upd (σ 59) i w j
    by_cases e : j = i
    · rw [e, pu_upl, pu_upl]
    · rw [pu_upn e, pu_upn (by omega)]; exact g3 j hj
theorem op_cell_3 (h : rl_ σ sr ln Lc μ O T) (i v : Int32) : op_I xs LL 118 204 [.int (nI 3), .int i, .int v] σ sr ln Lc μ := by
  have h' := h
  obtain ⟨hWF, hRK, hRL, hRO, hT, hM, hS, h10, h20⟩ := h'
  obtain ⟨z, hz40, hz, hzm⟩ := (rl_shk hS (s := 3) (by decide)).2.1
  rcases rl_sh33 hS (s := 3) (by decide) with ⟨g1, g2⟩ | ⟨g1, g2, g3, q, hq, g4⟩
  · exact op_same h (-11) (sp_X11_cell_3m 9 i v g1) (sp_X12_cell_m 8 3 (by decide) i v g2)
  · cases hc : pu_cv z i 1 with
    | false =>
      refine op_same h (-12) (sp_X11_cell_3o 9 i v g1 hz hz40 hc) (sp_X12_cell_o 8 3 (by decide) i v g2 hzm hz40 ?_)
      cases e : am_in i z with
      | false => rfl
      | true =>
        have e := am_in_iff.mp e
        have := (pu_cv_iff hz40 (a := i) (n := 1)).mpr ⟨e.1, by decide, by rw [show (1 : Int32).toInt = 1 by decide]; omega⟩
        rw [hc] at this; cases this
    | true =>
      have hc2 := (pu_cv_iff hz40).mp hc
      rw [show (1 : Int32).toInt = 1 by decide] at hc2
      obtain ⟨i, hi, rfl⟩ : ∃ k, k < z ∧ i = nI k := am_in_nI (am_in_iff.mpr ⟨hc2.1, by omega⟩)
      match q, hq with
      | 0, _ => exact ⟨_, _, _, _, _, _, O, T, sp_X11_cell_3q0 9 hz hz40 i hi v g4 hc, sp_X12_cell_q0 8 3 (by decide) i v g2 hzm hz40 hi (g3.trans g4), hWF, hRK, hRL, hRO, hT, hM, rl_cell_3 (by omega) hS, rl_set_fr (σ := σ) rfl rfl rfl rfl rfl rfl rfl rfl rfl h10, rl_set_fr (σ := σ) rfl rfl rfl rfl rfl rfl rfl rfl rfl h20⟩
      | 1, _ => exact ⟨_, _, _, _, _, _, O, T, sp_X11_cell_3q1 9 hz hz40 i hi v g4 hc, sp_X12_cell_q1 8 3 (by decide) i v g2 hzm hz40 hi (g3.trans g4), hWF, hRK, hRL, hRO, hT, hM, rl_cell_3 (by omega) hS, rl_set_fr (σ := σ) rfl rfl rfl rfl rfl rfl rfl rfl rfl h10, rl_set_fr (σ := σ) rfl rfl rfl rfl rfl rfl rfl rfl rfl h20⟩
      | 2, _ => exact ⟨_, _, _, _, _, _, O, T, sp_X11_cell_3q2 9 hz hz40 i hi v g4 hc, sp_X12_cell_q2 8 3 (by decide) i v g2 hzm hz40 hi (g3.trans g4), hWF, hRK, hRL, hRO, hT, hM, rl_cell_3 (by omega) hS, rl_set_fr (σ := σ) rfl rfl rfl rfl rfl rfl rfl rfl rfl h10, rl_set_fr (σ := σ) rfl rfl rfl rfl rfl rfl rfl rfl rfl h20⟩
theorem op_cell (h : rl_ σ sr ln Lc μ O T) (s i v : Int32) : op_I xs LL 118 204 [.int s, .int i, .int v] σ sr ln Lc μ := by
  cases e : am_in s 4 with
  | false => exact op_same h (-2) (sp_X11_cell_no 9 s i v e) (sp_X12_cell_no 8 s i v e)
  | true =>
    obtain ⟨s, hs, rfl⟩ := am_in_nI e
    match s, hs with
    | 0, _ => exact op_cell_0 h i v
    | 1, _ => exact op_cell_1 h i v
    | 2, _ => exact op_cell_2 h i v
    | 3, _ => exact op_cell_3 h i v
theorem rl_i20 {T n : Nat} (hT : T ≤ 20) (hn : n ≤ 20) (h : ¬ T + n ≤ 20) (e : μ 21 0 = nI T) : 20 < μ 21 0 + nI n := by
  rw [e, nI_add]
  exact nI_lt (a := 20) (by omega) (by omega)
theorem op_taped_0 (h : rl_ σ sr ln Lc μ O T) (k a n : Int32) : op_I xs LL 120 206 [.int (nI 0), .int k, .int a, .int n] σ sr ln Lc μ := by
  have h' := h
  obtain ⟨hWF, hRK, hRL, hRO, hT, hM, hS, h10, h20⟩ := h'
  have hT' := hT
  obtain ⟨t20, t1, t2, t3, t4⟩ := hT'
  cases hs3 : am_in k 3 with
  | false => exact op_same h (-2) (sp_X11_taped_0bk 9 k a n hs3) (sp_X12_taped_bk 8 0 (by decide) k a n hs3)
  | true =>
  cases hn21 : am_in n 21 with
  | false => exact op_same h (-2) (sp_X11_taped_0bn 9 k a n hs3 hn21) (sp_X12_taped_bn 8 0 (by decide) k a n hs3 hn21)
  | true =>
  obtain ⟨z, hz40, hz, hzm⟩ := (rl_shk hS (s := 0) (by decide)).2.1
  rcases rl_sh33 hS (s := 0) (by decide) with ⟨g1, g2⟩ | ⟨g1, g2, g3, q, hq, g4⟩
  · exact op_same h (-11) (sp_X11_taped_0m 9 k a n hs3 hn21 g1) (sp_X12_taped_m 8 0 (by decide) k a n hs3 hn21 g2)
  · by_cases hx : σ 51 0 = k
    · obtain ⟨n, hn, rfl⟩ := am_in_nI hn21
      have hx2 : μ 34 0 = k := g3.trans hx
      by_cases hn0 : nI n ≤ 0
      · have n0 : n = 0 := by
          rcases Nat.eq_zero_or_pos n with q | q
          · exact q
          · exact absurd hn0 (nI_ge (a := 0) (b := n) q (by omega))
        subst n0
        exact op_same2 h (t1.trans t2.symm) (sp_X11_taped_0z 9 k a hs3 g1 hx hz hz40 t1 t20) (sp_X12_taped_z 8 0 (by decide) k a hs3 g2 hx2 hzm hz40 t2 t20)
      · cases hc : pu_cv z a (nI n) with
        | false => exact op_same h (-12) (sp_X11_taped_0o 9 k a (nI n) hs3 hn21 g1 hx hz hz40 hn0 hc) (sp_X12_taped_o 8 0 (by decide) k a (nI n) hs3 hn21 g2 hx2 hzm hz40 hn0 (by rw [← pu_cv_cvT hz40 (by rw [nI_toInt (by omega)]; omega)]; exact hc))
        | true =>
          have hc2 := (pu_cv_iff hz40).mp hc
          rw [nI_toInt (by omega : n < 2 ^ 31)] at hc2
          obtain ⟨a, rfl, ha⟩ := rl_nat hc2.1 (by omega)
          have ha2 : a + n ≤ z := by omega
          by_cases hr : T + n ≤ 20
          · obtain ⟨ta, tb⟩ := rl_tapeN hT hr (f := fun k => (σ 50 (a + k)) &&& 255) (g := fun k => (μ 36 (40 * 0 + a + k)) &&& 255) rfl rfl (fun i hi => by show (μ 36 (40 * 0 + a + i)) &&& 255 = _; rw [show 40 * 0 + a + i = 40 * 0 + (a + i) by omega, (rl_shk hS (s := 0) (by decide)).2.2 (a + i) (by omega)]) (fun i _ => rl_255 _)
            exact ⟨_, _, _, _, _, _, O, T + n, sp_X11_taped_0q 9 k a n hs3 hn21 hn0 g1 hx hz hz40 ha2 hc t1 t20 hr, sp_X12_taped_q 8 0 (by decide) k a n hs3 hn21 hn0 g2 hx2 hzm hz40 ha2 t2 t20 hr, hWF, hRK, hRL, hRO, ⟨hr, rfl, rfl, ta, tb⟩, hM, hS, rl_set_fr (σ := σ) rfl rfl rfl rfl rfl rfl rfl rfl rfl h10, rl_set_fr (σ := σ) rfl rfl rfl rfl rfl rfl rfl rfl rfl h20⟩
          · refine op_same h (-4) (sp_X11_taped_0f0 9 k (nI a) n hs3 hn21 (by omega) g1 hx hz hz40 hn0 hc t1 t20 (by omega)) (sp_X12_taped_f0 8 0 (by decide) k (nI a) (nI n) hs3 hn21 g2 hx2 hzm hz40 hn0 (nI_pos (by omega)) ?_ (rl_i20 t20 (by omega) hr t2))
            rw [rl_subN (a := z) (b := n) (by omega) (by omega)]
            exact nI_le (by omega) (by omega)
    · exact op_same h (-13) (sp_X11_taped_0x 9 k a n hs3 hn21 g1 hx) (sp_X12_taped_x 8 0 (by decide) k a n hs3 hn21 g2 (by rw [g3]; exact hx))
theorem op_taped_1 (h : rl_ σ sr ln Lc μ O T) (k a n : Int32) : op_I xs LL 120 206 [.int (nI 1), .int k, .int a, .int n] σ sr ln Lc μ := by
  have h' := h
  obtain ⟨hWF, hRK, hRL, hRO, hT, hM, hS, h10, h20⟩ := h'
  have hT' := hT
  obtain ⟨t20, t1, t2, t3, t4⟩ := hT'
  cases hs3 : am_in k 3 with
  | false => exact op_same h (-2) (sp_X11_taped_1bk 9 k a n hs3) (sp_X12_taped_bk 8 1 (by decide) k a n hs3)
  | true =>
  cases hn21 : am_in n 21 with
  | false => exact op_same h (-2) (sp_X11_taped_1bn 9 k a n hs3 hn21) (sp_X12_taped_bn 8 1 (by decide) k a n hs3 hn21)
  | true =>
  obtain ⟨z, hz40, hz, hzm⟩ := (rl_shk hS (s := 1) (by decide)).2.1
  rcases rl_sh33 hS (s := 1) (by decide) with ⟨g1, g2⟩ | ⟨g1, g2, g3, q, hq, g4⟩
  · exact op_same h (-11) (sp_X11_taped_1m 9 k a n hs3 hn21 g1) (sp_X12_taped_m 8 1 (by decide) k a n hs3 hn21 g2)
  · by_cases hx : σ 54 0 = k
    · obtain ⟨n, hn, rfl⟩ := am_in_nI hn21
      have hx2 : μ 34 1 = k := g3.trans hx
      by_cases hn0 : nI n ≤ 0
      · have n0 : n = 0 := by
          rcases Nat.eq_zero_or_pos n with q | q
          · exact q
          · exact absurd hn0 (nI_ge (a := 0) (b := n) q (by omega))
        subst n0
        exact op_same2 h (t1.trans t2.symm) (sp_X11_taped_1z 9 k a hs3 g1 hx hz hz40 t1 t20) (sp_X12_taped_z 8 1 (by decide) k a hs3 g2 hx2 hzm hz40 t2 t20)
      · cases hc : pu_cv z a (nI n) with
        | false => exact op_same h (-12) (sp_X11_taped_1o 9 k a (nI n) hs3 hn21 g1 hx hz hz40 hn0 hc) (sp_X12_taped_o 8 1 (by decide) k a (nI n) hs3 hn21 g2 hx2 hzm hz40 hn0 (by rw [← pu_cv_cvT hz40 (by rw [nI_toInt (by omega)]; omega)]; exact hc))
        | true =>
          have hc2 := (pu_cv_iff hz40).mp hc
          rw [nI_toInt (by omega : n < 2 ^ 31)] at hc2
          obtain ⟨a, rfl, ha⟩ := rl_nat hc2.1 (by omega)
          have ha2 : a + n ≤ z := by omega
          by_cases hr : T + n ≤ 20
          · obtain ⟨ta, tb⟩ := rl_tapeN hT hr (f := fun k => (σ 53 (a + k)) &&& 255) (g := fun k => (μ 36 (40 * 1 + a + k)) &&& 255) rfl rfl (fun i hi => by show (μ 36 (40 * 1 + a + i)) &&& 255 = _; rw [show 40 * 1 + a + i = 40 * 1 + (a + i) by omega, (rl_shk hS (s := 1) (by decide)).2.2 (a + i) (by omega)]) (fun i _ => rl_255 _)
            exact ⟨_, _, _, _, _, _, O, T + n, sp_X11_taped_1q 9 k a n hs3 hn21 hn0 g1 hx hz hz40 ha2 hc t1 t20 hr, sp_X12_taped_q 8 1 (by decide) k a n hs3 hn21 hn0 g2 hx2 hzm hz40 ha2 t2 t20 hr, hWF, hRK, hRL, hRO, ⟨hr, rfl, rfl, ta, tb⟩, hM, hS, rl_set_fr (σ := σ) rfl rfl rfl rfl rfl rfl rfl rfl rfl h10, rl_set_fr (σ := σ) rfl rfl rfl rfl rfl rfl rfl rfl rfl h20⟩
          · refine op_same h (-4) (sp_X11_taped_1f0 9 k (nI a) n hs3 hn21 (by omega) g1 hx hz hz40 hn0 hc t1 t20 (by omega)) (sp_X12_taped_f0 8 1 (by decide) k (nI a) (nI n) hs3 hn21 g2 hx2 hzm hz40 hn0 (nI_pos (by omega)) ?_ (rl_i20 t20 (by omega) hr t2))
            rw [rl_subN (a := z) (b := n) (by omega) (by omega)]
            exact nI_le (by omega) (by omega)
    · exact op_same h (-13) (sp_X11_taped_1x 9 k a n hs3 hn21 g1 hx) (sp_X12_taped_x 8 1 (by decide) k a n hs3 hn21 g2 (by rw [g3]; exact hx))
theorem op_taped_2 (h : rl_ σ sr ln Lc μ O T) (k a n : Int32) : op_I xs LL 120 206 [.int (nI 2), .int k, .int a, .int n] σ sr ln Lc μ := by
  have h' := h
  obtain ⟨hWF, hRK, hRL, hRO, hT, hM, hS, h10, h20⟩ := h'
  have hT' := hT
  obtain ⟨t20, t1, t2, t3, t4⟩ := hT'
  cases hs3 : am_in k 3 with
  | false => exact op_same h (-2) (sp_X11_taped_2bk 9 k a n hs3) (sp_X12_taped_bk 8 2 (by decide) k a n hs3)
  | true =>
  cases hn21 : am_in n 21 with
  | false => exact op_same h (-2) (sp_X11_taped_2bn 9 k a n hs3 hn21) (sp_X12_taped_bn 8 2 (by decide) k a n hs3 hn21)
  | true =>
  obtain ⟨z, hz40, hz, hzm⟩ := (rl_shk hS (s := 2) (by decide)).2.1
  rcases rl_sh33 hS (s := 2) (by decide) with ⟨g1, g2⟩ | ⟨g1, g2, g3, q, hq, g4⟩
  · exact op_same h (-11) (sp_X11_taped_2m 9 k a n hs3 hn21 g1) (sp_X12_taped_m 8 2 (by decide) k a n hs3 hn21 g2)
  · by_cases hx : σ 57 0 = k
    · obtain ⟨n, hn, rfl⟩ := am_in_nI hn21
      have hx2 : μ 34 2 = k := g3.trans hx
      by_cases hn0 : nI n ≤ 0
      · have n0 : n = 0 := by
          rcases Nat.eq_zero_or_pos n with q | q
          · exact q
          · exact absurd hn0 (nI_ge (a := 0) (b := n) q (by omega))
        subst n0
        exact op_same2 h (t1.trans t2.symm) (sp_X11_taped_2z 9 k a hs3 g1 hx hz hz40 t1 t20) (sp_X12_taped_z 8 2 (by decide) k a hs3 g2 hx2 hzm hz40 t2 t20)
      · cases hc : pu_cv z a (nI n) with
        | false => exact op_same h (-12) (sp_X11_taped_2o 9 k a (nI n) hs3 hn21 g1 hx hz hz40 hn0 hc) (sp_X12_taped_o 8 2 (by decide) k a (nI n) hs3 hn21 g2 hx2 hzm hz40 hn0 (by rw [← pu_cv_cvT hz40 (by rw [nI_toInt (by omega)]; omega)]; exact hc))
        | true =>
          have hc2 := (pu_cv_iff hz40).mp hc
          rw [nI_toInt (by omega : n < 2 ^ 31)] at hc2
          obtain ⟨a, rfl, ha⟩ := rl_nat hc2.1 (by omega)
          have ha2 : a + n ≤ z := by omega
          by_cases hr : T + n ≤ 20
          · obtain ⟨ta, tb⟩ := rl_tapeN hT hr (f := fun k => (σ 56 (a + k)) &&& 255) (g := fun k => (μ 36 (40 * 2 + a + k)) &&& 255) rfl rfl (fun i hi => by show (μ 36 (40 * 2 + a + i)) &&& 255 = _; rw [show 40 * 2 + a + i = 40 * 2 + (a + i) by omega, (rl_shk hS (s := 2) (by decide)).2.2 (a + i) (by omega)]) (fun i _ => rl_255 _)
            exact ⟨_, _, _, _, _, _, O, T + n, sp_X11_taped_2q 9 k a n hs3 hn21 hn0 g1 hx hz hz40 ha2 hc t1 t20 hr, sp_X12_taped_q 8 2 (by decide) k a n hs3 hn21 hn0 g2 hx2 hzm hz40 ha2 t2 t20 hr, hWF, hRK, hRL, hRO, ⟨hr, rfl, rfl, ta, tb⟩, hM, hS, rl_set_fr (σ := σ) rfl rfl rfl rfl rfl rfl rfl rfl rfl h10, rl_set_fr (σ := σ) rfl rfl rfl rfl rfl rfl rfl rfl rfl h20⟩
          · refine op_same h (-4) (sp_X11_taped_2f0 9 k (nI a) n hs3 hn21 (by omega) g1 hx hz hz40 hn0 hc t1 t20 (by omega)) (sp_X12_taped_f0 8 2 (by decide) k (nI a) (nI n) hs3 hn21 g2 hx2 hzm hz40 hn0 (nI_pos (by omega)) ?_ (rl_i20 t20 (by omega) hr t2))
            rw [rl_subN (a := z) (b := n) (by omega) (by omega)]
            exact nI_le (by omega) (by omega)
    · exact op_same h (-13) (sp_X11_taped_2x 9 k a n hs3 hn21 g1 hx) (sp_X12_taped_x 8 2 (by decide) k a n hs3 hn21 g2 (by rw [g3]; exact hx))
theorem op_taped_3 (h : rl_ σ sr ln Lc μ O T) (k a n : Int32) : op_I xs LL 120 206 [.int (nI 3), .int k, .int a, .int n] σ sr ln Lc μ := by
  have h' := h
  obtain ⟨hWF, hRK, hRL, hRO, hT, hM, hS, h10, h20⟩ := h'
  have hT' := hT
  obtain ⟨t20, t1, t2, t3, t4⟩ := hT'
  cases hs3 : am_in k 3 with
  | false => exact op_same h (-2) (sp_X11_taped_3bk 9 k a n hs3) (sp_X12_taped_bk 8 3 (by decide) k a n hs3)
  | true =>
  cases hn21 : am_in n 21 with
  | false => exact op_same h (-2) (sp_X11_taped_3bn 9 k a n hs3 hn21) (sp_X12_taped_bn 8 3 (by decide) k a n hs3 hn21)
  | true =>
  obtain ⟨z, hz40, hz, hzm⟩ := (rl_shk hS (s := 3) (by decide)).2.1
  rcases rl_sh33 hS (s := 3) (by decide) with ⟨g1, g2⟩ | ⟨g1, g2, g3, q, hq, g4⟩
  · exact op_same h (-11) (sp_X11_taped_3m 9 k a n hs3 hn21 g1) (sp_X12_taped_m 8 3 (by decide) k a n hs3 hn21 g2)
  · by_cases hx : σ 60 0 = k
    · obtain ⟨n, hn, rfl⟩ := am_in_nI hn21
      have hx2 : μ 34 3 = k := g3.trans hx
      by_cases hn0 : nI n ≤ 0
      · have n0 : n = 0 := by
          rcases Nat.eq_zero_or_pos n with q | q
          · exact q
          · exact absurd hn0 (nI_ge (a := 0) (b := n) q (by omega))
        subst n0
        exact op_same2 h (t1.trans t2.symm) (sp_X11_taped_3z 9 k a hs3 g1 hx hz hz40 t1 t20) (sp_X12_taped_z 8 3 (by decide) k a hs3 g2 hx2 hzm hz40 t2 t20)
      · cases hc : pu_cv z a (nI n) with
        | false => exact op_same h (-12) (sp_X11_taped_3o 9 k a (nI n) hs3 hn21 g1 hx hz hz40 hn0 hc) (sp_X12_taped_o 8 3 (by decide) k a (nI n) hs3 hn21 g2 hx2 hzm hz40 hn0 (by rw [← pu_cv_cvT hz40 (by rw [nI_toInt (by omega)]; omega)]; exact hc))
        | true =>
          have hc2 := (pu_cv_iff hz40).mp hc
          rw [nI_toInt (by omega : n < 2 ^ 31)] at hc2
          obtain ⟨a, rfl, ha⟩ := rl_nat hc2.1 (by omega)
          have ha2 : a + n ≤ z := by omega
          by_cases hr : T + n ≤ 20
          · obtain ⟨ta, tb⟩ := rl_tapeN hT hr (f := fun k => (σ 59 (a + k)) &&& 255) (g := fun k => (μ 36 (40 * 3 + a + k)) &&& 255) rfl rfl (fun i hi => by show (μ 36 (40 * 3 + a + i)) &&& 255 = _; rw [show 40 * 3 + a + i = 40 * 3 + (a + i) by omega, (rl_shk hS (s := 3) (by decide)).2.2 (a + i) (by omega)]) (fun i _ => rl_255 _)
            exact ⟨_, _, _, _, _, _, O, T + n, sp_X11_taped_3q 9 k a n hs3 hn21 hn0 g1 hx hz hz40 ha2 hc t1 t20 hr, sp_X12_taped_q 8 3 (by decide) k a n hs3 hn21 hn0 g2 hx2 hzm hz40 ha2 t2 t20 hr, hWF, hRK, hRL, hRO, ⟨hr, rfl, rfl, ta, tb⟩, hM, hS, rl_set_fr (σ := σ) rfl rfl rfl rfl rfl rfl rfl rfl rfl h10, rl_set_fr (σ := σ) rfl rfl rfl rfl rfl rfl rfl rfl rfl h20⟩
          · refine op_same h (-4) (sp_X11_taped_3f0 9 k (nI a) n hs3 hn21 (by omega) g1 hx hz hz40 hn0 hc t1 t20 (by omega)) (sp_X12_taped_f0 8 3 (by decide) k (nI a) (nI n) hs3 hn21 g2 hx2 hzm hz40 hn0 (nI_pos (by omega)) ?_ (rl_i20 t20 (by omega) hr t2))
            rw [rl_subN (a := z) (b := n) (by omega) (by omega)]
            exact nI_le (by omega) (by omega)
    · exact op_same h (-13) (sp_X11_taped_3x 9 k a n hs3 hn21 g1 hx) (sp_X12_taped_x 8 3 (by decide) k a n hs3 hn21 g2 (by rw [g3]; exact hx))
theorem op_taped (h : rl_ σ sr ln Lc μ O T) (s k a n : Int32) : op_I xs LL 120 206 [.int s, .int k, .int a, .int n] σ sr ln Lc μ := by
  cases e : am_in s 4 with
  | false => exact op_same h (-2) (sp_X11_taped_no 9 s k a n e) (sp_X12_taped_no 8 s k a n e)
  | true =>
    obtain ⟨s, hs, rfl⟩ := am_in_nI e
    match s, hs with
    | 0, _ => exact op_taped_0 h k a n
    | 1, _ => exact op_taped_1 h k a n
    | 2, _ => exact op_taped_2 h k a n
    | 3, _ => exact op_taped_3 h k a n
theorem rl_copy_00 {a b c : Nat} (ha : a + c ≤ 40) (hb : b + c ≤ 40) (hS : rl_shs σ μ) {F : Nat → Int32} (hF : ∀ p, F p = if 40 * 0 + b ≤ p ∧ p < 40 * 0 + b + c then μ 36 (40 * 0 + a + (p - (40 * 0 + b))) else μ 36 p) : rl_shs (am_up σ 50 (va_cpy (σ 50) (σ 50) a b c)) (am_up μ 36 F) := by
  have e0 := (rl_shk hS (s := 0) (by decide)).2.2
  refine ⟨?_, ?_, ?_, ?_⟩
  · obtain ⟨g1, g2, g3⟩ := hS.1
    refine ⟨g1, g2, fun j hj => ?_⟩
    show F (40 * 0 + j) = (if b ≤ j ∧ j < b + c then σ 50 (a + (j - b)) else σ 50 j)
    rw [hF]
    by_cases g : b ≤ j ∧ j < b + c
    · rw [if_pos g, if_pos (by omega), show 40 * 0 + a + (40 * 0 + j - (40 * 0 + b)) = 40 * 0 + (a + (j - b)) by omega]
      exact e0 (a + (j - b)) (by omega)
    · rw [if_neg g, if_neg (by omega)]; exact g3 j hj
  · obtain ⟨g1, g2, g3⟩ := hS.2.1
    refine ⟨g1, g2, fun j hj => ?_⟩
    show F (40 * 1 + j) = σ 53 j
    rw [hF, if_neg (by omega)]; exact g3 j hj
  · obtain ⟨g1, g2, g3⟩ := hS.2.2.1
    refine ⟨g1, g2, fun j hj => ?_⟩
    show F (40 * 2 + j) = σ 56 j
    rw [hF, if_neg (by omega)]; exact g3 j hj
  · obtain ⟨g1, g2, g3⟩ := hS.2.2.2
    refine ⟨g1, g2, fun j hj => ?_⟩
    show F (40 * 3 + j) = σ 59 j
    rw [hF, if_neg (by omega)]; exact g3 j hj
theorem op_copy_00 (h : rl_ σ sr ln Lc μ O T) (i j n : Int32) : op_I xs LL 119 205 [.int (nI 0), .int i, .int (nI 0), .int j, .int n] σ sr ln Lc μ := by
  have h' := h
  obtain ⟨hWF, hRK, hRL, hRO, hT, hM, hS, h10, h20⟩ := h'
  obtain ⟨z, hz40, hz, hzm⟩ := (rl_shk hS (s := 0) (by decide)).2.1
  rcases rl_sh33 hS (s := 0) (by decide) with ⟨g1, g2⟩ | ⟨g1, g2, g3, q, hq, g4⟩
  · exact op_same h (-11) (sp_X11_copy_00m 9 i j n g1) (sp_X12_copy_m1 8 0 (by decide) 0 (by decide) i j n g2)
  · cases hc : (pu_cv z i n && pu_cv z j n) with
    | false => exact op_same h (-12) (sp_X11_copy_00o 9 i j n g1 hz hz40 hc) (sp_X12_copy_o 8 0 (by decide) 0 (by decide) i j n g2 g2 rfl hzm hz40 hzm hz40 (by rw [← pu_cv_cvM hz40 hz40]; exact hc))
    | true =>
      obtain ⟨c1, c2⟩ := (Bool.and_eq_true _ _).mp hc
      have d1 := (pu_cv_iff hz40).mp c1
      have d2 := (pu_cv_iff hz40).mp c2
      obtain ⟨a, rfl, e1⟩ := rl_nat d1.1 (by omega)
      obtain ⟨b, rfl, e2⟩ := rl_nat d2.1 (by omega)
      obtain ⟨c, rfl, e3⟩ := rl_nat d1.2.1 (by omega)
      have ha : a + c ≤ z := by omega
      have hb : b + c ≤ z := by omega
      by_cases hab : a < b
      · refine ⟨_, _, _, _, _, _, O, T, sp_X11_copy_00q 9 a b c g1 hz hz40 ha hb c1 c2, sp_X12_copy_up 8 0 (by decide) 0 (by decide) g2 g2 rfl hzm hz40 hzm hz40 a b c ha hb rfl hab, hWF, hRK, hRL, hRO, hT, hM, rl_copy_00 (by omega) (by omega) hS ?_, rl_set_fr (σ := σ) rfl rfl rfl rfl rfl rfl rfl rfl rfl h10, rl_set_fr (σ := σ) rfl rfl rfl rfl rfl rfl rfl rfl rfl h20⟩
        intro p
        have e := rl_upc (40 * 0 + a) (40 * 0 + b) c (μ 36) (by omega) p c (Nat.le_refl _)
        rw [Nat.sub_self] at e
        exact e
      · refine ⟨_, _, _, _, _, _, O, T, sp_X11_copy_00q 9 a b c g1 hz hz40 ha hb c1 c2, sp_X12_copy_dn2 8 0 (by decide) 0 (by decide) g2 g2 rfl hzm hz40 hzm hz40 a b c ha hb rfl (by omega), hWF, hRK, hRL, hRO, hT, hM, rl_copy_00 (by omega) (by omega) hS ?_, rl_set_fr (σ := σ) rfl rfl rfl rfl rfl rfl rfl rfl rfl h10, rl_set_fr (σ := σ) rfl rfl rfl rfl rfl rfl rfl rfl rfl h20⟩
        intro p
        exact rl_dnc (40 * 0 + a) (40 * 0 + b) (μ 36) c (fun k l hk hl => by omega) p c (Nat.le_refl _)
theorem rl_copy_01 {a b c : Nat} (ha : a + c ≤ 40) (hb : b + c ≤ 40) (hS : rl_shs σ μ) {F : Nat → Int32} (hF : ∀ p, F p = if 40 * 1 + b ≤ p ∧ p < 40 * 1 + b + c then μ 36 (40 * 0 + a + (p - (40 * 1 + b))) else μ 36 p) : rl_shs (am_up σ 53 (va_cpy (σ 50) (σ 53) a b c)) (am_up μ 36 F) := by
  have e0 := (rl_shk hS (s := 0) (by decide)).2.2
  refine ⟨?_, ?_, ?_, ?_⟩
  · obtain ⟨g1, g2, g3⟩ := hS.1
    refine ⟨g1, g2, fun j hj => ?_⟩
    show F (40 * 0 + j) = σ 50 j
    rw [hF, if_neg (by omega)]; exact g3 j hj
  · obtain ⟨g1, g2, g3⟩ := hS.2.1
    refine ⟨g1, g2, fun j hj => ?_⟩
    show F (40 * 1 + j) = (if b ≤ j ∧ j < b + c then σ 50 (a + (j - b)) else σ 53 j)
    rw [hF]
    by_cases g : b ≤ j ∧ j < b + c
    · rw [if_pos g, if_pos (by omega), show 40 * 0 + a + (40 * 1 + j - (40 * 1 + b)) = 40 * 0 + (a + (j - b)) by omega]
      exact e0 (a + (j - b)) (by omega)
    · rw [if_neg g, if_neg (by omega)]; exact g3 j hj
  · obtain ⟨g1, g2, g3⟩ := hS.2.2.1
    refine ⟨g1, g2, fun j hj => ?_⟩
    show F (40 * 2 + j) = σ 56 j
    rw [hF, if_neg (by omega)]; exact g3 j hj
  · obtain ⟨g1, g2, g3⟩ := hS.2.2.2
    refine ⟨g1, g2, fun j hj => ?_⟩
    show F (40 * 3 + j) = σ 59 j
    rw [hF, if_neg (by omega)]; exact g3 j hj
theorem op_copy_01 (h : rl_ σ sr ln Lc μ O T) (i j n : Int32) : op_I xs LL 119 205 [.int (nI 0), .int i, .int (nI 1), .int j, .int n] σ sr ln Lc μ := by
  have h' := h
  obtain ⟨hWF, hRK, hRL, hRO, hT, hM, hS, h10, h20⟩ := h'
  obtain ⟨z, hz40, hz, hzm⟩ := (rl_shk hS (s := 0) (by decide)).2.1
  obtain ⟨y, hy40, hy, hym⟩ := (rl_shk hS (s := 1) (by decide)).2.1
  rcases rl_sh33 hS (s := 0) (by decide) with ⟨g1, g2⟩ | ⟨g1, g2, g3, q, hq, g4⟩
  · exact op_same h (-11) (sp_X11_copy_01m 9 i j n g1) (sp_X12_copy_m1 8 0 (by decide) 1 (by decide) i j n g2)
  · rcases rl_sh33 hS (s := 1) (by decide) with ⟨k1, k2⟩ | ⟨k1, k2, k3, q', hq', k4⟩
    · exact op_same h (-11) (sp_X11_copy_01m2 9 i j n g1 k1) (sp_X12_copy_m2 8 0 (by decide) 1 (by decide) i j n g2 k2)
    · by_cases hx : σ 51 0 = σ 54 0
      · have hx2 : μ 34 0 = μ 34 1 := g3.trans (hx.trans k3.symm)
        cases hc : (pu_cv z i n && pu_cv y j n) with
        | false => exact op_same h (-12) (sp_X11_copy_01o 9 i j n g1 k1 hx hz hz40 hy hy40 hc) (sp_X12_copy_o 8 0 (by decide) 1 (by decide) i j n g2 k2 hx2 hzm hz40 hym hy40 (by rw [← pu_cv_cvM hz40 hy40]; exact hc))
        | true =>
          obtain ⟨c1, c2⟩ := (Bool.and_eq_true _ _).mp hc
          have d1 := (pu_cv_iff hz40).mp c1
          have d2 := (pu_cv_iff hy40).mp c2
          obtain ⟨a, rfl, e1⟩ := rl_nat d1.1 (by omega)
          obtain ⟨b, rfl, e2⟩ := rl_nat d2.1 (by omega)
          obtain ⟨c, rfl, e3⟩ := rl_nat d1.2.1 (by omega)
          have ha : a + c ≤ z := by omega
          have hb : b + c ≤ y := by omega
          refine ⟨_, _, _, _, _, _, O, T, sp_X11_copy_01q 9 a b c g1 k1 hx hz hz40 hy hy40 ha hb c1 c2, sp_X12_copy_dn1 8 0 (by decide) 1 (by decide) g2 k2 hx2 hzm hz40 hym hy40 a b c ha hb (by decide), hWF, hRK, hRL, hRO, hT, hM, rl_copy_01 (by omega) (by omega) hS ?_, rl_set_fr (σ := σ) rfl rfl rfl rfl rfl rfl rfl rfl rfl h10, rl_set_fr (σ := σ) rfl rfl rfl rfl rfl rfl rfl rfl rfl h20⟩
          intro p
          exact rl_dnc (40 * 0 + a) (40 * 1 + b) (μ 36) c (fun k l hk hl => by omega) p c (Nat.le_refl _)
      · exact op_same h (-13) (sp_X11_copy_01x 9 i j n g1 k1 hx) (sp_X12_copy_x 8 0 (by decide) 1 (by decide) i j n g2 k2 (by rw [g3, k3]; exact hx))
theorem rl_copy_02 {a b c : Nat} (ha : a + c ≤ 40) (hb : b + c ≤ 40) (hS : rl_shs σ μ) {F : Nat → Int32} (hF : ∀ p, F p = if 40 * 2 + b ≤ p ∧ p < 40 * 2 + b + c then μ 36 (40 * 0 + a + (p - (40 * 2 + b))) else μ 36 p) : rl_shs (am_up σ 56 (va_cpy (σ 50) (σ 56) a b c)) (am_up μ 36 F) := by
  have e0 := (rl_shk hS (s := 0) (by decide)).2.2
  refine ⟨?_, ?_, ?_, ?_⟩
  · obtain ⟨g1, g2, g3⟩ := hS.1
    refine ⟨g1, g2, fun j hj => ?_⟩
    show F (40 * 0 + j) = σ 50 j
    rw [hF, if_neg (by omega)]; exact g3 j hj
  · obtain ⟨g1, g2, g3⟩ := hS.2.1
    refine ⟨g1, g2, fun j hj => ?_⟩
    show F (40 * 1 + j) = σ 53 j
    rw [hF, if_neg (by omega)]; exact g3 j hj
  · obtain ⟨g1, g2, g3⟩ := hS.2.2.1
    refine ⟨g1, g2, fun j hj => ?_⟩
    show F (40 * 2 + j) = (if b ≤ j ∧ j < b + c then σ 50 (a + (j - b)) else σ 56 j)
    rw [hF]
    by_cases g : b ≤ j ∧ j < b + c
    · rw [if_pos g, if_pos (by omega), show 40 * 0 + a + (40 * 2 + j - (40 * 2 + b)) = 40 * 0 + (a + (j - b)) by omega]
      exact e0 (a + (j - b)) (by omega)
    · rw [if_neg g, if_neg (by omega)]; exact g3 j hj
  · obtain ⟨g1, g2, g3⟩ := hS.2.2.2
    refine ⟨g1, g2, fun j hj => ?_⟩
    show F (40 * 3 + j) = σ 59 j
    rw [hF, if_neg (by omega)]; exact g3 j hj
theorem op_copy_02 (h : rl_ σ sr ln Lc μ O T) (i j n : Int32) : op_I xs LL 119 205 [.int (nI 0), .int i, .int (nI 2), .int j, .int n] σ sr ln Lc μ := by
  have h' := h
  obtain ⟨hWF, hRK, hRL, hRO, hT, hM, hS, h10, h20⟩ := h'
  obtain ⟨z, hz40, hz, hzm⟩ := (rl_shk hS (s := 0) (by decide)).2.1
  obtain ⟨y, hy40, hy, hym⟩ := (rl_shk hS (s := 2) (by decide)).2.1
  rcases rl_sh33 hS (s := 0) (by decide) with ⟨g1, g2⟩ | ⟨g1, g2, g3, q, hq, g4⟩
  · exact op_same h (-11) (sp_X11_copy_02m 9 i j n g1) (sp_X12_copy_m1 8 0 (by decide) 2 (by decide) i j n g2)
  · rcases rl_sh33 hS (s := 2) (by decide) with ⟨k1, k2⟩ | ⟨k1, k2, k3, q', hq', k4⟩
    · exact op_same h (-11) (sp_X11_copy_02m2 9 i j n g1 k1) (sp_X12_copy_m2 8 0 (by decide) 2 (by decide) i j n g2 k2)
    · by_cases hx : σ 51 0 = σ 57 0
      · have hx2 : μ 34 0 = μ 34 2 := g3.trans (hx.trans k3.symm)
        cases hc : (pu_cv z i n && pu_cv y j n) with
        | false => exact op_same h (-12) (sp_X11_copy_02o 9 i j n g1 k1 hx hz hz40 hy hy40 hc) (sp_X12_copy_o 8 0 (by decide) 2 (by decide) i j n g2 k2 hx2 hzm hz40 hym hy40 (by rw [← pu_cv_cvM hz40 hy40]; exact hc))
        | true =>
          obtain ⟨c1, c2⟩ := (Bool.and_eq_true _ _).mp hc
          have d1 := (pu_cv_iff hz40).mp c1
          have d2 := (pu_cv_iff hy40).mp c2
          obtain ⟨a, rfl, e1⟩ := rl_nat d1.1 (by omega)
          obtain ⟨b, rfl, e2⟩ := rl_nat d2.1 (by omega)
          obtain ⟨c, rfl, e3⟩ := rl_nat d1.2.1 (by omega)
          have ha : a + c ≤ z := by omega
          have hb : b + c ≤ y := by omega
          refine ⟨_, _, _, _, _, _, O, T, sp_X11_copy_02q 9 a b c g1 k1 hx hz hz40 hy hy40 ha hb c1 c2, sp_X12_copy_dn1 8 0 (by decide) 2 (by decide) g2 k2 hx2 hzm hz40 hym hy40 a b c ha hb (by decide), hWF, hRK, hRL, hRO, hT, hM, rl_copy_02 (by omega) (by omega) hS ?_, rl_set_fr (σ := σ) rfl rfl rfl rfl rfl rfl rfl rfl rfl h10, rl_set_fr (σ := σ) rfl rfl rfl rfl rfl rfl rfl rfl rfl h20⟩
          intro p
          exact rl_dnc (40 * 0 + a) (40 * 2 + b) (μ 36) c (fun k l hk hl => by omega) p c (Nat.le_refl _)
      · exact op_same h (-13) (sp_X11_copy_02x 9 i j n g1 k1 hx) (sp_X12_copy_x 8 0 (by decide) 2 (by decide) i j n g2 k2 (by rw [g3, k3]; exact hx))
theorem rl_copy_03 {a b c : Nat} (ha : a + c ≤ 40) (hb : b + c ≤ 40) (hS : rl_shs σ μ) {F : Nat → Int32} (hF : ∀ p, F p = if 40 * 3 + b ≤ p ∧ p < 40 * 3 + b + c then μ 36 (40 * 0 + a + (p - (40 * 3 + b))) else μ 36 p) : rl_shs (am_up σ 59 (va_cpy (σ 50) (σ 59) a b c)) (am_up μ 36 F) := by
  have e0 := (rl_shk hS (s := 0) (by decide)).2.2
  refine ⟨?_, ?_, ?_, ?_⟩
  · obtain ⟨g1, g2, g3⟩ := hS.1
    refine ⟨g1, g2, fun j hj => ?_⟩
    show F (40 * 0 + j) = σ 50 j
    rw [hF, if_neg (by omega)]; exact g3 j hj
  · obtain ⟨g1, g2, g3⟩ := hS.2.1
    refine ⟨g1, g2, fun j hj => ?_⟩
    show F (40 * 1 + j) = σ 53 j
    rw [hF, if_neg (by omega)]; exact g3 j hj
  · obtain ⟨g1, g2, g3⟩ := hS.2.2.1
    refine ⟨g1, g2, fun j hj => ?_⟩
    show F (40 * 2 + j) = σ 56 j
    rw [hF, if_neg (by omega)]; exact g3 j hj
  · obtain ⟨g1, g2, g3⟩ := hS.2.2.2
    refine ⟨g1, g2, fun j hj => ?_⟩
    show F (40 * 3 + j) = (if b ≤ j ∧ j < b + c then σ 50 (a + (j - b)) else σ 59 j)
    rw [hF]
    by_cases g : b ≤ j ∧ j < b + c
    · rw [if_pos g, if_pos (by omega), show 40 * 0 + a + (40 * 3 + j - (40 * 3 + b)) = 40 * 0 + (a + (j - b)) by omega]
      exact e0 (a + (j - b)) (by omega)
    · rw [if_neg g, if_neg (by omega)]; exact g3 j hj
theorem op_copy_03 (h : rl_ σ sr ln Lc μ O T) (i j n : Int32) : op_I xs LL 119 205 [.int (nI 0), .int i, .int (nI 3), .int j, .int n] σ sr ln Lc μ := by
  have h' := h
  obtain ⟨hWF, hRK, hRL, hRO, hT, hM, hS, h10, h20⟩ := h'
  obtain ⟨z, hz40, hz, hzm⟩ := (rl_shk hS (s := 0) (by decide)).2.1
  obtain ⟨y, hy40, hy, hym⟩ := (rl_shk hS (s := 3) (by decide)).2.1
  rcases rl_sh33 hS (s := 0) (by decide) with ⟨g1, g2⟩ | ⟨g1, g2, g3, q, hq, g4⟩
  · exact op_same h (-11) (sp_X11_copy_03m 9 i j n g1) (sp_X12_copy_m1 8 0 (by decide) 3 (by decide) i j n g2)
  · rcases rl_sh33 hS (s := 3) (by decide) with ⟨k1, k2⟩ | ⟨k1, k2, k3, q', hq', k4⟩
    · exact op_same h (-11) (sp_X11_copy_03m2 9 i j n g1 k1) (sp_X12_copy_m2 8 0 (by decide) 3 (by decide) i j n g2 k2)
    · by_cases hx : σ 51 0 = σ 60 0
      · have hx2 : μ 34 0 = μ 34 3 := g3.trans (hx.trans k3.symm)
        cases hc : (pu_cv z i n && pu_cv y j n) with
        | false => exact op_same h (-12) (sp_X11_copy_03o 9 i j n g1 k1 hx hz hz40 hy hy40 hc) (sp_X12_copy_o 8 0 (by decide) 3 (by decide) i j n g2 k2 hx2 hzm hz40 hym hy40 (by rw [← pu_cv_cvM hz40 hy40]; exact hc))
        | true =>
          obtain ⟨c1, c2⟩ := (Bool.and_eq_true _ _).mp hc
          have d1 := (pu_cv_iff hz40).mp c1
          have d2 := (pu_cv_iff hy40).mp c2
          obtain ⟨a, rfl, e1⟩ := rl_nat d1.1 (by omega)
          obtain ⟨b, rfl, e2⟩ := rl_nat d2.1 (by omega)
          obtain ⟨c, rfl, e3⟩ := rl_nat d1.2.1 (by omega)
          have ha : a + c ≤ z := by omega
          have hb : b + c ≤ y := by omega
          refine ⟨_, _, _, _, _, _, O, T, sp_X11_copy_03q 9 a b c g1 k1 hx hz hz40 hy hy40 ha hb c1 c2, sp_X12_copy_dn1 8 0 (by decide) 3 (by decide) g2 k2 hx2 hzm hz40 hym hy40 a b c ha hb (by decide), hWF, hRK, hRL, hRO, hT, hM, rl_copy_03 (by omega) (by omega) hS ?_, rl_set_fr (σ := σ) rfl rfl rfl rfl rfl rfl rfl rfl rfl h10, rl_set_fr (σ := σ) rfl rfl rfl rfl rfl rfl rfl rfl rfl h20⟩
          intro p
          exact rl_dnc (40 * 0 + a) (40 * 3 + b) (μ 36) c (fun k l hk hl => by omega) p c (Nat.le_refl _)
      · exact op_same h (-13) (sp_X11_copy_03x 9 i j n g1 k1 hx) (sp_X12_copy_x 8 0 (by decide) 3 (by decide) i j n g2 k2 (by rw [g3, k3]; exact hx))
theorem rl_copy_10 {a b c : Nat} (ha : a + c ≤ 40) (hb : b + c ≤ 40) (hS : rl_shs σ μ) {F : Nat → Int32} (hF : ∀ p, F p = if 40 * 0 + b ≤ p ∧ p < 40 * 0 + b + c then μ 36 (40 * 1 + a + (p - (40 * 0 + b))) else μ 36 p) : rl_shs (am_up σ 50 (va_cpy (σ 53) (σ 50) a b c)) (am_up μ 36 F) := by
  have e0 := (rl_shk hS (s := 1) (by decide)).2.2
  refine ⟨?_, ?_, ?_, ?_⟩
  · obtain ⟨g1, g2, g3⟩ := hS.1
    refine ⟨g1, g2, fun j hj => ?_⟩
    show F (40 * 0 + j) = (if b ≤ j ∧ j < b + c then σ 53 (a + (j - b)) else σ 50 j)
    rw [hF]
    by_cases g : b ≤ j ∧ j < b + c
    · rw [if_pos g, if_pos (by omega), show 40 * 1 + a + (40 * 0 + j - (40 * 0 + b)) = 40 * 1 + (a + (j - b)) by omega]
      exact e0 (a + (j - b)) (by omega)
    · rw [if_neg g, if_neg (by omega)]; exact g3 j hj
  · obtain ⟨g1, g2, g3⟩ := hS.2.1
    refine ⟨g1, g2, fun j hj => ?_⟩
    show F (40 * 1 + j) = σ 53 j
    rw [hF, if_neg (by omega)]; exact g3 j hj
  · obtain ⟨g1, g2, g3⟩ := hS.2.2.1
    refine ⟨g1, g2, fun j hj => ?_⟩
    show F (40 * 2 + j) = σ 56 j
    rw [hF, if_neg (by omega)]; exact g3 j hj
  · obtain ⟨g1, g2, g3⟩ := hS.2.2.2
    refine ⟨g1, g2, fun j hj => ?_⟩
    show F (40 * 3 + j) = σ 59 j
    rw [hF, if_neg (by omega)]; exact g3 j hj
theorem op_copy_10 (h : rl_ σ sr ln Lc μ O T) (i j n : Int32) : op_I xs LL 119 205 [.int (nI 1), .int i, .int (nI 0), .int j, .int n] σ sr ln Lc μ := by
  have h' := h
  obtain ⟨hWF, hRK, hRL, hRO, hT, hM, hS, h10, h20⟩ := h'
  obtain ⟨z, hz40, hz, hzm⟩ := (rl_shk hS (s := 1) (by decide)).2.1
  obtain ⟨y, hy40, hy, hym⟩ := (rl_shk hS (s := 0) (by decide)).2.1
  rcases rl_sh33 hS (s := 1) (by decide) with ⟨g1, g2⟩ | ⟨g1, g2, g3, q, hq, g4⟩
  · exact op_same h (-11) (sp_X11_copy_10m 9 i j n g1) (sp_X12_copy_m1 8 1 (by decide) 0 (by decide) i j n g2)
  · rcases rl_sh33 hS (s := 0) (by decide) with ⟨k1, k2⟩ | ⟨k1, k2, k3, q', hq', k4⟩
    · exact op_same h (-11) (sp_X11_copy_10m2 9 i j n g1 k1) (sp_X12_copy_m2 8 1 (by decide) 0 (by decide) i j n g2 k2)
    · by_cases hx : σ 54 0 = σ 51 0
      · have hx2 : μ 34 1 = μ 34 0 := g3.trans (hx.trans k3.symm)
        cases hc : (pu_cv z i n && pu_cv y j n) with
        | false => exact op_same h (-12) (sp_X11_copy_10o 9 i j n g1 k1 hx hz hz40 hy hy40 hc) (sp_X12_copy_o 8 1 (by decide) 0 (by decide) i j n g2 k2 hx2 hzm hz40 hym hy40 (by rw [← pu_cv_cvM hz40 hy40]; exact hc))
        | true =>
          obtain ⟨c1, c2⟩ := (Bool.and_eq_true _ _).mp hc
          have d1 := (pu_cv_iff hz40).mp c1
          have d2 := (pu_cv_iff hy40).mp c2
          obtain ⟨a, rfl, e1⟩ := rl_nat d1.1 (by omega)
          obtain ⟨b, rfl, e2⟩ := rl_nat d2.1 (by omega)
          obtain ⟨c, rfl, e3⟩ := rl_nat d1.2.1 (by omega)
          have ha : a + c ≤ z := by omega
          have hb : b + c ≤ y := by omega
          refine ⟨_, _, _, _, _, _, O, T, sp_X11_copy_10q 9 a b c g1 k1 hx hz hz40 hy hy40 ha hb c1 c2, sp_X12_copy_dn1 8 1 (by decide) 0 (by decide) g2 k2 hx2 hzm hz40 hym hy40 a b c ha hb (by decide), hWF, hRK, hRL, hRO, hT, hM, rl_copy_10 (by omega) (by omega) hS ?_, rl_set_fr (σ := σ) rfl rfl rfl rfl rfl rfl rfl rfl rfl h10, rl_set_fr (σ := σ) rfl rfl rfl rfl rfl rfl rfl rfl rfl h20⟩
          intro p
          exact rl_dnc (40 * 1 + a) (40 * 0 + b) (μ 36) c (fun k l hk hl => by omega) p c (Nat.le_refl _)
      · exact op_same h (-13) (sp_X11_copy_10x 9 i j n g1 k1 hx) (sp_X12_copy_x 8 1 (by decide) 0 (by decide) i j n g2 k2 (by rw [g3, k3]; exact hx))
theorem rl_copy_11 {a b c : Nat} (ha : a + c ≤ 40) (hb : b + c ≤ 40) (hS : rl_shs σ μ) {F : Nat → Int32} (hF : ∀ p, F p = if 40 * 1 + b ≤ p ∧ p < 40 * 1 + b + c then μ 36 (40 * 1 + a + (p - (40 * 1 + b))) else μ 36 p) : rl_shs (am_up σ 53 (va_cpy (σ 53) (σ 53) a b c)) (am_up μ 36 F) := by
  have e0 := (rl_shk hS (s := 1) (by decide)).2.2
  refine ⟨?_, ?_, ?_, ?_⟩
  · obtain ⟨g1, g2, g3⟩ := hS.1
    refine ⟨g1, g2, fun j hj => ?_⟩
    show F (40 * 0 + j) = σ 50 j
    rw [hF, if_neg (by omega)]; exact g3 j hj
  · obtain ⟨g1, g2, g3⟩ := hS.2.1
    refine ⟨g1, g2, fun j hj => ?_⟩
    show F (40 * 1 + j) = (if b ≤ j ∧ j < b + c then σ 53 (a + (j - b)) else σ 53 j)
    rw [hF]
    by_cases g : b ≤ j ∧ j < b + c
    · rw [if_pos g, if_pos (by omega), show 40 * 1 + a + (40 * 1 + j - (40 * 1 + b)) = 40 * 1 + (a + (j - b)) by omega]
      exact e0 (a + (j - b)) (by omega)
    · rw [if_neg g, if_neg (by omega)]; exact g3 j hj
  · obtain ⟨g1, g2, g3⟩ := hS.2.2.1
    refine ⟨g1, g2, fun j hj => ?_⟩
    show F (40 * 2 + j) = σ 56 j
    rw [hF, if_neg (by omega)]; exact g3 j hj
  · obtain ⟨g1, g2, g3⟩ := hS.2.2.2
    refine ⟨g1, g2, fun j hj => ?_⟩
    show F (40 * 3 + j) = σ 59 j
    rw [hF, if_neg (by omega)]; exact g3 j hj
theorem op_copy_11 (h : rl_ σ sr ln Lc μ O T) (i j n : Int32) : op_I xs LL 119 205 [.int (nI 1), .int i, .int (nI 1), .int j, .int n] σ sr ln Lc μ := by
  have h' := h
  obtain ⟨hWF, hRK, hRL, hRO, hT, hM, hS, h10, h20⟩ := h'
  obtain ⟨z, hz40, hz, hzm⟩ := (rl_shk hS (s := 1) (by decide)).2.1
  rcases rl_sh33 hS (s := 1) (by decide) with ⟨g1, g2⟩ | ⟨g1, g2, g3, q, hq, g4⟩
  · exact op_same h (-11) (sp_X11_copy_11m 9 i j n g1) (sp_X12_copy_m1 8 1 (by decide) 1 (by decide) i j n g2)
  · cases hc : (pu_cv z i n && pu_cv z j n) with
    | false => exact op_same h (-12) (sp_X11_copy_11o 9 i j n g1 hz hz40 hc) (sp_X12_copy_o 8 1 (by decide) 1 (by decide) i j n g2 g2 rfl hzm hz40 hzm hz40 (by rw [← pu_cv_cvM hz40 hz40]; exact hc))
    | true =>
      obtain ⟨c1, c2⟩ := (Bool.and_eq_true _ _).mp hc
      have d1 := (pu_cv_iff hz40).mp c1
      have d2 := (pu_cv_iff hz40).mp c2
      obtain ⟨a, rfl, e1⟩ := rl_nat d1.1 (by omega)
      obtain ⟨b, rfl, e2⟩ := rl_nat d2.1 (by omega)
      obtain ⟨c, rfl, e3⟩ := rl_nat d1.2.1 (by omega)
      have ha : a + c ≤ z := by omega
      have hb : b + c ≤ z := by omega
      by_cases hab : a < b
      · refine ⟨_, _, _, _, _, _, O, T, sp_X11_copy_11q 9 a b c g1 hz hz40 ha hb c1 c2, sp_X12_copy_up 8 1 (by decide) 1 (by decide) g2 g2 rfl hzm hz40 hzm hz40 a b c ha hb rfl hab, hWF, hRK, hRL, hRO, hT, hM, rl_copy_11 (by omega) (by omega) hS ?_, rl_set_fr (σ := σ) rfl rfl rfl rfl rfl rfl rfl rfl rfl h10, rl_set_fr (σ := σ) rfl rfl rfl rfl rfl rfl rfl rfl rfl h20⟩
        intro p
        have e := rl_upc (40 * 1 + a) (40 * 1 + b) c (μ 36) (by omega) p c (Nat.le_refl _)
        rw [Nat.sub_self] at e
        exact e
      · refine ⟨_, _, _, _, _, _, O, T, sp_X11_copy_11q 9 a b c g1 hz hz40 ha hb c1 c2, sp_X12_copy_dn2 8 1 (by decide) 1 (by decide) g2 g2 rfl hzm hz40 hzm hz40 a b c ha hb rfl (by omega), hWF, hRK, hRL, hRO, hT, hM, rl_copy_11 (by omega) (by omega) hS ?_, rl_set_fr (σ := σ) rfl rfl rfl rfl rfl rfl rfl rfl rfl h10, rl_set_fr (σ := σ) rfl rfl rfl rfl rfl rfl rfl rfl rfl h20⟩
        intro p
        exact rl_dnc (40 * 1 + a) (40 * 1 + b) (μ 36) c (fun k l hk hl => by omega) p c (Nat.le_refl _)
theorem rl_copy_12 {a b c : Nat} (ha : a + c ≤ 40) (hb : b + c ≤ 40) (hS : rl_shs σ μ) {F : Nat → Int32} (hF : ∀ p, F p = if 40 * 2 + b ≤ p ∧ p < 40 * 2 + b + c then μ 36 (40 * 1 + a + (p - (40 * 2 + b))) else μ 36 p) : rl_shs (am_up σ 56 (va_cpy (σ 53) (σ 56) a b c)) (am_up μ 36 F) := by
  have e0 := (rl_shk hS (s := 1) (by decide)).2.2
  refine ⟨?_, ?_, ?_, ?_⟩
  · obtain ⟨g1, g2, g3⟩ := hS.1
    refine ⟨g1, g2, fun j hj => ?_⟩
    show F (40 * 0 + j) = σ 50 j
    rw [hF, if_neg (by omega)]; exact g3 j hj
  · obtain ⟨g1, g2, g3⟩ := hS.2.1
    refine ⟨g1, g2, fun j hj => ?_⟩
    show F (40 * 1 + j) = σ 53 j
    rw [hF, if_neg (by omega)]; exact g3 j hj
  · obtain ⟨g1, g2, g3⟩ := hS.2.2.1
    refine ⟨g1, g2, fun j hj => ?_⟩
    show F (40 * 2 + j) = (if b ≤ j ∧ j < b + c then σ 53 (a + (j - b)) else σ 56 j)
    rw [hF]
    by_cases g : b ≤ j ∧ j < b + c
    · rw [if_pos g, if_pos (by omega), show 40 * 1 + a + (40 * 2 + j - (40 * 2 + b)) = 40 * 1 + (a + (j - b)) by omega]
      exact e0 (a + (j - b)) (by omega)
    · rw [if_neg g, if_neg (by omega)]; exact g3 j hj
  · obtain ⟨g1, g2, g3⟩ := hS.2.2.2
    refine ⟨g1, g2, fun j hj => ?_⟩
    show F (40 * 3 + j) = σ 59 j
    rw [hF, if_neg (by omega)]; exact g3 j hj
theorem op_copy_12 (h : rl_ σ sr ln Lc μ O T) (i j n : Int32) : op_I xs LL 119 205 [.int (nI 1), .int i, .int (nI 2), .int j, .int n] σ sr ln Lc μ := by
  have h' := h
  obtain ⟨hWF, hRK, hRL, hRO, hT, hM, hS, h10, h20⟩ := h'
  obtain ⟨z, hz40, hz, hzm⟩ := (rl_shk hS (s := 1) (by decide)).2.1
  obtain ⟨y, hy40, hy, hym⟩ := (rl_shk hS (s := 2) (by decide)).2.1
  rcases rl_sh33 hS (s := 1) (by decide) with ⟨g1, g2⟩ | ⟨g1, g2, g3, q, hq, g4⟩
  · exact op_same h (-11) (sp_X11_copy_12m 9 i j n g1) (sp_X12_copy_m1 8 1 (by decide) 2 (by decide) i j n g2)
  · rcases rl_sh33 hS (s := 2) (by decide) with ⟨k1, k2⟩ | ⟨k1, k2, k3, q', hq', k4⟩
    · exact op_same h (-11) (sp_X11_copy_12m2 9 i j n g1 k1) (sp_X12_copy_m2 8 1 (by decide) 2 (by decide) i j n g2 k2)
    · by_cases hx : σ 54 0 = σ 57 0
      · have hx2 : μ 34 1 = μ 34 2 := g3.trans (hx.trans k3.symm)
        cases hc : (pu_cv z i n && pu_cv y j n) with
        | false => exact op_same h (-12) (sp_X11_copy_12o 9 i j n g1 k1 hx hz hz40 hy hy40 hc) (sp_X12_copy_o 8 1 (by decide) 2 (by decide) i j n g2 k2 hx2 hzm hz40 hym hy40 (by rw [← pu_cv_cvM hz40 hy40]; exact hc))
        | true =>
          obtain ⟨c1, c2⟩ := (Bool.and_eq_true _ _).mp hc
          have d1 := (pu_cv_iff hz40).mp c1
          have d2 := (pu_cv_iff hy40).mp c2
          obtain ⟨a, rfl, e1⟩ := rl_nat d1.1 (by omega)
          obtain ⟨b, rfl, e2⟩ := rl_nat d2.1 (by omega)
          obtain ⟨c, rfl, e3⟩ := rl_nat d1.2.1 (by omega)
          have ha : a + c ≤ z := by omega
          have hb : b + c ≤ y := by omega
          refine ⟨_, _, _, _, _, _, O, T, sp_X11_copy_12q 9 a b c g1 k1 hx hz hz40 hy hy40 ha hb c1 c2, sp_X12_copy_dn1 8 1 (by decide) 2 (by decide) g2 k2 hx2 hzm hz40 hym hy40 a b c ha hb (by decide), hWF, hRK, hRL, hRO, hT, hM, rl_copy_12 (by omega) (by omega) hS ?_, rl_set_fr (σ := σ) rfl rfl rfl rfl rfl rfl rfl rfl rfl h10, rl_set_fr (σ := σ) rfl rfl rfl rfl rfl rfl rfl rfl rfl h20⟩
          intro p
          exact rl_dnc (40 * 1 + a) (40 * 2 + b) (μ 36) c (fun k l hk hl => by omega) p c (Nat.le_refl _)
      · exact op_same h (-13) (sp_X11_copy_12x 9 i j n g1 k1 hx) (sp_X12_copy_x 8 1 (by decide) 2 (by decide) i j n g2 k2 (by rw [g3, k3]; exact hx))
theorem rl_copy_13 {a b c : Nat} (ha : a + c ≤ 40) (hb : b + c ≤ 40) (hS : rl_shs σ μ) {F : Nat → Int32} (hF : ∀ p, F p = if 40 * 3 + b ≤ p ∧ p < 40 * 3 + b + c then μ 36 (40 * 1 + a + (p - (40 * 3 + b))) else μ 36 p) : rl_shs (am_up σ 59 (va_cpy (σ 53) (σ 59) a b c)) (am_up μ 36 F) := by
  have e0 := (rl_shk hS (s := 1) (by decide)).2.2
  refine ⟨?_, ?_, ?_, ?_⟩
  · obtain ⟨g1, g2, g3⟩ := hS.1
    refine ⟨g1, g2, fun j hj => ?_⟩
    show F (40 * 0 + j) = σ 50 j
    rw [hF, if_neg (by omega)]; exact g3 j hj
  · obtain ⟨g1, g2, g3⟩ := hS.2.1
    refine ⟨g1, g2, fun j hj => ?_⟩
    show F (40 * 1 + j) = σ 53 j
    rw [hF, if_neg (by omega)]; exact g3 j hj
  · obtain ⟨g1, g2, g3⟩ := hS.2.2.1
    refine ⟨g1, g2, fun j hj => ?_⟩
    show F (40 * 2 + j) = σ 56 j
    rw [hF, if_neg (by omega)]; exact g3 j hj
  · obtain ⟨g1, g2, g3⟩ := hS.2.2.2
    refine ⟨g1, g2, fun j hj => ?_⟩
    show F (40 * 3 + j) = (if b ≤ j ∧ j < b + c then σ 53 (a + (j - b)) else σ 59 j)
    rw [hF]
    by_cases g : b ≤ j ∧ j < b + c
    · rw [if_pos g, if_pos (by omega), show 40 * 1 + a + (40 * 3 + j - (40 * 3 + b)) = 40 * 1 + (a + (j - b)) by omega]
      exact e0 (a + (j - b)) (by omega)
    · rw [if_neg g, if_neg (by omega)]; exact g3 j hj
theorem op_copy_13 (h : rl_ σ sr ln Lc μ O T) (i j n : Int32) : op_I xs LL 119 205 [.int (nI 1), .int i, .int (nI 3), .int j, .int n] σ sr ln Lc μ := by
  have h' := h
  obtain ⟨hWF, hRK, hRL, hRO, hT, hM, hS, h10, h20⟩ := h'
  obtain ⟨z, hz40, hz, hzm⟩ := (rl_shk hS (s := 1) (by decide)).2.1
  obtain ⟨y, hy40, hy, hym⟩ := (rl_shk hS (s := 3) (by decide)).2.1
  rcases rl_sh33 hS (s := 1) (by decide) with ⟨g1, g2⟩ | ⟨g1, g2, g3, q, hq, g4⟩
  · exact op_same h (-11) (sp_X11_copy_13m 9 i j n g1) (sp_X12_copy_m1 8 1 (by decide) 3 (by decide) i j n g2)
  · rcases rl_sh33 hS (s := 3) (by decide) with ⟨k1, k2⟩ | ⟨k1, k2, k3, q', hq', k4⟩
    · exact op_same h (-11) (sp_X11_copy_13m2 9 i j n g1 k1) (sp_X12_copy_m2 8 1 (by decide) 3 (by decide) i j n g2 k2)
    · by_cases hx : σ 54 0 = σ 60 0
      · have hx2 : μ 34 1 = μ 34 3 := g3.trans (hx.trans k3.symm)
        cases hc : (pu_cv z i n && pu_cv y j n) with
        | false => exact op_same h (-12) (sp_X11_copy_13o 9 i j n g1 k1 hx hz hz40 hy hy40 hc) (sp_X12_copy_o 8 1 (by decide) 3 (by decide) i j n g2 k2 hx2 hzm hz40 hym hy40 (by rw [← pu_cv_cvM hz40 hy40]; exact hc))
        | true =>
          obtain ⟨c1, c2⟩ := (Bool.and_eq_true _ _).mp hc
          have d1 := (pu_cv_iff hz40).mp c1
          have d2 := (pu_cv_iff hy40).mp c2
          obtain ⟨a, rfl, e1⟩ := rl_nat d1.1 (by omega)
          obtain ⟨b, rfl, e2⟩ := rl_nat d2.1 (by omega)
          obtain ⟨c, rfl, e3⟩ := rl_nat d1.2.1 (by omega)
          have ha : a + c ≤ z := by omega
          have hb : b + c ≤ y := by omega
          refine ⟨_, _, _, _, _, _, O, T, sp_X11_copy_13q 9 a b c g1 k1 hx hz hz40 hy hy40 ha hb c1 c2, sp_X12_copy_dn1 8 1 (by decide) 3 (by decide) g2 k2 hx2 hzm hz40 hym hy40 a b c ha hb (by decide), hWF, hRK, hRL, hRO, hT, hM, rl_copy_13 (by omega) (by omega) hS ?_, rl_set_fr (σ := σ) rfl rfl rfl rfl rfl rfl rfl rfl rfl h10, rl_set_fr (σ := σ) rfl rfl rfl rfl rfl rfl rfl rfl rfl h20⟩
          intro p
          exact rl_dnc (40 * 1 + a) (40 * 3 + b) (μ 36) c (fun k l hk hl => by omega) p c (Nat.le_refl _)
      · exact op_same h (-13) (sp_X11_copy_13x 9 i j n g1 k1 hx) (sp_X12_copy_x 8 1 (by decide) 3 (by decide) i j n g2 k2 (by rw [g3, k3]; exact hx))
theorem rl_copy_20 {a b c : Nat} (ha : a + c ≤ 40) (hb : b + c ≤ 40) (hS : rl_shs σ μ) {F : Nat → Int32} (hF : ∀ p, F p = if 40 * 0 + b ≤ p ∧ p < 40 * 0 + b + c then μ 36 (40 * 2 + a + (p - (40 * 0 + b))) else μ 36 p) : rl_shs (am_up σ 50 (va_cpy (σ 56) (σ 50) a b c)) (am_up μ 36 F) := by
  have e0 := (rl_shk hS (s := 2) (by decide)).2.2
  refine ⟨?_, ?_, ?_, ?_⟩
  · obtain ⟨g1, g2, g3⟩ := hS.1
    refine ⟨g1, g2, fun j hj => ?_⟩
    show F (40 * 0 + j) = (if b ≤ j ∧ j < b + c then σ 56 (a + (j - b)) else σ 50 j)
    rw [hF]
    by_cases g : b ≤ j ∧ j < b + c
    · rw [if_pos g, if_pos (by omega), show 40 * 2 + a + (40 * 0 + j - (40 * 0 + b)) = 40 * 2 + (a + (j - b)) by omega]
      exact e0 (a + (j - b)) (by omega)
    · rw [if_neg g, if_neg (by omega)]; exact g3 j hj
  · obtain ⟨g1, g2, g3⟩ := hS.2.1
    refine ⟨g1, g2, fun j hj => ?_⟩
    show F (40 * 1 + j) = σ 53 j
    rw [hF, if_neg (by omega)]; exact g3 j hj
  · obtain ⟨g1, g2, g3⟩ := hS.2.2.1
    refine ⟨g1, g2, fun j hj => ?_⟩
    show F (40 * 2 + j) = σ 56 j
    rw [hF, if_neg (by omega)]; exact g3 j hj
  · obtain ⟨g1, g2, g3⟩ := hS.2.2.2
    refine ⟨g1, g2, fun j hj => ?_⟩
    show F (40 * 3 + j) = σ 59 j
    rw [hF, if_neg (by omega)]; exact g3 j hj
theorem op_copy_20 (h : rl_ σ sr ln Lc μ O T) (i j n : Int32) : op_I xs LL 119 205 [.int (nI 2), .int i, .int (nI 0), .int j, .int n] σ sr ln Lc μ := by
  have h' := h
  obtain ⟨hWF, hRK, hRL, hRO, hT, hM, hS, h10, h20⟩ := h'
  obtain ⟨z, hz40, hz, hzm⟩ := (rl_shk hS (s := 2) (by decide)).2.1
  obtain ⟨y, hy40, hy, hym⟩ := (rl_shk hS (s := 0) (by decide)).2.1
  rcases rl_sh33 hS (s := 2) (by decide) with ⟨g1, g2⟩ | ⟨g1, g2, g3, q, hq, g4⟩
  · exact op_same h (-11) (sp_X11_copy_20m 9 i j n g1) (sp_X12_copy_m1 8 2 (by decide) 0 (by decide) i j n g2)
  · rcases rl_sh33 hS (s := 0) (by decide) with ⟨k1, k2⟩ | ⟨k1, k2, k3, q', hq', k4⟩
    · exact op_same h (-11) (sp_X11_copy_20m2 9 i j n g1 k1) (sp_X12_copy_m2 8 2 (by decide) 0 (by decide) i j n g2 k2)
    · by_cases hx : σ 57 0 = σ 51 0
      · have hx2 : μ 34 2 = μ 34 0 := g3.trans (hx.trans k3.symm)
        cases hc : (pu_cv z i n && pu_cv y j n) with
        | false => exact op_same h (-12) (sp_X11_copy_20o 9 i j n g1 k1 hx hz hz40 hy hy40 hc) (sp_X12_copy_o 8 2 (by decide) 0 (by decide) i j n g2 k2 hx2 hzm hz40 hym hy40 (by rw [← pu_cv_cvM hz40 hy40]; exact hc))
        | true =>
          obtain ⟨c1, c2⟩ := (Bool.and_eq_true _ _).mp hc
          have d1 := (pu_cv_iff hz40).mp c1
          have d2 := (pu_cv_iff hy40).mp c2
          obtain ⟨a, rfl, e1⟩ := rl_nat d1.1 (by omega)
          obtain ⟨b, rfl, e2⟩ := rl_nat d2.1 (by omega)
          obtain ⟨c, rfl, e3⟩ := rl_nat d1.2.1 (by omega)
          have ha : a + c ≤ z := by omega
          have hb : b + c ≤ y := by omega
          refine ⟨_, _, _, _, _, _, O, T, sp_X11_copy_20q 9 a b c g1 k1 hx hz hz40 hy hy40 ha hb c1 c2, sp_X12_copy_dn1 8 2 (by decide) 0 (by decide) g2 k2 hx2 hzm hz40 hym hy40 a b c ha hb (by decide), hWF, hRK, hRL, hRO, hT, hM, rl_copy_20 (by omega) (by omega) hS ?_, rl_set_fr (σ := σ) rfl rfl rfl rfl rfl rfl rfl rfl rfl h10, rl_set_fr (σ := σ) rfl rfl rfl rfl rfl rfl rfl rfl rfl h20⟩
          intro p
          exact rl_dnc (40 * 2 + a) (40 * 0 + b) (μ 36) c (fun k l hk hl => by omega) p c (Nat.le_refl _)
      · exact op_same h (-13) (sp_X11_copy_20x 9 i j n g1 k1 hx) (sp_X12_copy_x 8 2 (by decide) 0 (by decide) i j n g2 k2 (by rw [g3, k3]; exact hx))
theorem rl_copy_21 {a b c : Nat} (ha : a + c ≤ 40) (hb : b + c ≤ 40) (hS : rl_shs σ μ) {F : Nat → Int32} (hF : ∀ p, F p = if 40 * 1 + b ≤ p ∧ p < 40 * 1 + b + c then μ 36 (40 * 2 + a + (p - (40 * 1 + b))) else μ 36 p) : rl_shs (am_up σ 53 (va_cpy (σ 56) (σ 53) a b c)) (am_up μ 36 F) := by
  have e0 := (rl_shk hS (s := 2) (by decide)).2.2
  refine ⟨?_, ?_, ?_, ?_⟩
  · obtain ⟨g1, g2, g3⟩ := hS.1
    refine ⟨g1, g2, fun j hj => ?_⟩
    show F (40 * 0 + j) = σ 50 j
    rw [hF, if_neg (by omega)]; exact g3 j hj
  · obtain ⟨g1, g2, g3⟩ := hS.2.1
    refine ⟨g1, g2, fun j hj => ?_⟩
    show F (40 * 1 + j) = (if b ≤ j ∧ j < b + c then σ 56 (a + (j - b)) else σ 53 j)
    rw [hF]
    by_cases g : b ≤ j ∧ j < b + c
    · rw [if_pos g, if_pos (by omega), show 40 * 2 + a + (40 * 1 + j - (40 * 1 + b)) = 40 * 2 + (a + (j - b)) by omega]
      exact e0 (a + (j - b)) (by omega)
    · rw [if_neg g, if_neg (by omega)]; exact g3 j hj
  · obtain ⟨g1, g2, g3⟩ := hS.2.2.1
    refine ⟨g1, g2, fun j hj => ?_⟩
    show F (40 * 2 + j) = σ 56 j
    rw [hF, if_neg (by omega)]; exact g3 j hj
  · obtain ⟨g1, g2, g3⟩ := hS.2.2.2
    refine ⟨g1, g2, fun j hj => ?_⟩
    show F (40 * 3 + j) = σ 59 j
    rw [hF, if_neg (by omega)]; exact g3 j hj
theorem op_copy_21 (h : rl_ σ sr ln Lc μ O T) (i j n : Int32) : op_I xs LL 119 205 [.int (nI 2), .int i, .int (nI 1), .int j, .int n] σ sr ln Lc μ := by
  have h' := h
  obtain ⟨hWF, hRK, hRL, hRO, hT, hM, hS, h10, h20⟩ := h'
  obtain ⟨z, hz40, hz, hzm⟩ := (rl_shk hS (s := 2) (by decide)).2.1
  obtain ⟨y, hy40, hy, hym⟩ := (rl_shk hS (s := 1) (by decide)).2.1
  rcases rl_sh33 hS (s := 2) (by decide) with ⟨g1, g2⟩ | ⟨g1, g2, g3, q, hq, g4⟩
  · exact op_same h (-11) (sp_X11_copy_21m 9 i j n g1) (sp_X12_copy_m1 8 2 (by decide) 1 (by decide) i j n g2)
  · rcases rl_sh33 hS (s := 1) (by decide) with ⟨k1, k2⟩ | ⟨k1, k2, k3, q', hq', k4⟩
    · exact op_same h (-11) (sp_X11_copy_21m2 9 i j n g1 k1) (sp_X12_copy_m2 8 2 (by decide) 1 (by decide) i j n g2 k2)
    · by_cases hx : σ 57 0 = σ 54 0
      · have hx2 : μ 34 2 = μ 34 1 := g3.trans (hx.trans k3.symm)
        cases hc : (pu_cv z i n && pu_cv y j n) with
        | false => exact op_same h (-12) (sp_X11_copy_21o 9 i j n g1 k1 hx hz hz40 hy hy40 hc) (sp_X12_copy_o 8 2 (by decide) 1 (by decide) i j n g2 k2 hx2 hzm hz40 hym hy40 (by rw [← pu_cv_cvM hz40 hy40]; exact hc))
        | true =>
          obtain ⟨c1, c2⟩ := (Bool.and_eq_true _ _).mp hc
          have d1 := (pu_cv_iff hz40).mp c1
          have d2 := (pu_cv_iff hy40).mp c2
          obtain ⟨a, rfl, e1⟩ := rl_nat d1.1 (by omega)
          obtain ⟨b, rfl, e2⟩ := rl_nat d2.1 (by omega)
          obtain ⟨c, rfl, e3⟩ := rl_nat d1.2.1 (by omega)
          have ha : a + c ≤ z := by omega
          have hb : b + c ≤ y := by omega
          refine ⟨_, _, _, _, _, _, O, T, sp_X11_copy_21q 9 a b c g1 k1 hx hz hz40 hy hy40 ha hb c1 c2, sp_X12_copy_dn1 8 2 (by decide) 1 (by decide) g2 k2 hx2 hzm hz40 hym hy40 a b c ha hb (by decide), hWF, hRK, hRL, hRO, hT, hM, rl_copy_21 (by omega) (by omega) hS ?_, rl_set_fr (σ := σ) rfl rfl rfl rfl rfl rfl rfl rfl rfl h10, rl_set_fr (σ := σ) rfl rfl rfl rfl rfl rfl rfl rfl rfl h20⟩
          intro p
          exact rl_dnc (40 * 2 + a) (40 * 1 + b) (μ 36) c (fun k l hk hl => by omega) p c (Nat.le_refl _)
      · exact op_same h (-13) (sp_X11_copy_21x 9 i j n g1 k1 hx) (sp_X12_copy_x 8 2 (by decide) 1 (by decide) i j n g2 k2 (by rw [g3, k3]; exact hx))
theorem rl_copy_22 {a b c : Nat} (ha : a + c ≤ 40) (hb : b + c ≤ 40) (hS : rl_shs σ μ) {F : Nat → Int32} (hF : ∀ p, F p = if 40 * 2 + b ≤ p ∧ p < 40 * 2 + b + c then μ 36 (40 * 2 + a + (p - (40 * 2 + b))) else μ 36 p) : rl_shs (am_up σ 56 (va_cpy (σ 56) (σ 56) a b c)) (am_up μ 36 F) := by
  have e0 := (rl_shk hS (s := 2) (by decide)).2.2
  refine ⟨?_, ?_, ?_, ?_⟩
  · obtain ⟨g1, g2, g3⟩ := hS.1
    refine ⟨g1, g2, fun j hj => ?_⟩
    show F (40 * 0 + j) = σ 50 j
    rw [hF, if_neg (by omega)]; exact g3 j hj
  · obtain ⟨g1, g2, g3⟩ := hS.2.1
    refine ⟨g1, g2, fun j hj => ?_⟩
    show F (40 * 1 + j) = σ 53 j
    rw [hF, if_neg (by omega)]; exact g3 j hj
  · obtain ⟨g1, g2, g3⟩ := hS.2.2.1
    refine ⟨g1, g2, fun j hj => ?_⟩
    show F (40 * 2 + j) = (if b ≤ j ∧ j < b + c then σ 56 (a + (j - b)) else σ 56 j)
    rw [hF]
    by_cases g : b ≤ j ∧ j < b + c
    · rw [if_pos g, if_pos (by omega), show 40 * 2 + a + (40 * 2 + j - (40 * 2 + b)) = 40 * 2 + (a + (j - b)) by omega]
      exact e0 (a + (j - b)) (by omega)
    · rw [if_neg g, if_neg (by omega)]; exact g3 j hj
  · obtain ⟨g1, g2, g3⟩ := hS.2.2.2
    refine ⟨g1, g2, fun j hj => ?_⟩
    show F (40 * 3 + j) = σ 59 j
    rw [hF, if_neg (by omega)]; exact g3 j hj
theorem op_copy_22 (h : rl_ σ sr ln Lc μ O T) (i j n : Int32) : op_I xs LL 119 205 [.int (nI 2), .int i, .int (nI 2), .int j, .int n] σ sr ln Lc μ := by
  have h' := h
  obtain ⟨hWF, hRK, hRL, hRO, hT, hM, hS, h10, h20⟩ := h'
  obtain ⟨z, hz40, hz, hzm⟩ := (rl_shk hS (s := 2) (by decide)).2.1
  rcases rl_sh33 hS (s := 2) (by decide) with ⟨g1, g2⟩ | ⟨g1, g2, g3, q, hq, g4⟩
  · exact op_same h (-11) (sp_X11_copy_22m 9 i j n g1) (sp_X12_copy_m1 8 2 (by decide) 2 (by decide) i j n g2)
  · cases hc : (pu_cv z i n && pu_cv z j n) with
    | false => exact op_same h (-12) (sp_X11_copy_22o 9 i j n g1 hz hz40 hc) (sp_X12_copy_o 8 2 (by decide) 2 (by decide) i j n g2 g2 rfl hzm hz40 hzm hz40 (by rw [← pu_cv_cvM hz40 hz40]; exact hc))
    | true =>
      obtain ⟨c1, c2⟩ := (Bool.and_eq_true _ _).mp hc
      have d1 := (pu_cv_iff hz40).mp c1
      have d2 := (pu_cv_iff hz40).mp c2
      obtain ⟨a, rfl, e1⟩ := rl_nat d1.1 (by omega)
      obtain ⟨b, rfl, e2⟩ := rl_nat d2.1 (by omega)
      obtain ⟨c, rfl, e3⟩ := rl_nat d1.2.1 (by omega)
      have ha : a + c ≤ z := by omega
      have hb : b + c ≤ z := by omega
      by_cases hab : a < b
      · refine ⟨_, _, _, _, _, _, O, T, sp_X11_copy_22q 9 a b c g1 hz hz40 ha hb c1 c2, sp_X12_copy_up 8 2 (by decide) 2 (by decide) g2 g2 rfl hzm hz40 hzm hz40 a b c ha hb rfl hab, hWF, hRK, hRL, hRO, hT, hM, rl_copy_22 (by omega) (by omega) hS ?_, rl_set_fr (σ := σ) rfl rfl rfl rfl rfl rfl rfl rfl rfl h10, rl_set_fr (σ := σ) rfl rfl rfl rfl rfl rfl rfl rfl rfl h20⟩
        intro p
        have e := rl_upc (40 * 2 + a) (40 * 2 + b) c (μ 36) (by omega) p c (Nat.le_refl _)
        rw [Nat.sub_self] at e
        exact e
      · refine ⟨_, _, _, _, _, _, O, T, sp_X11_copy_22q 9 a b c g1 hz hz40 ha hb c1 c2, sp_X12_copy_dn2 8 2 (by decide) 2 (by decide) g2 g2 rfl hzm hz40 hzm hz40 a b c ha hb rfl (by omega), hWF, hRK, hRL, hRO, hT, hM, rl_copy_22 (by omega) (by omega) hS ?_, rl_set_fr (σ := σ) rfl rfl rfl rfl rfl rfl rfl rfl rfl h10, rl_set_fr (σ := σ) rfl rfl rfl rfl rfl rfl rfl rfl rfl h20⟩
        intro p
        exact rl_dnc (40 * 2 + a) (40 * 2 + b) (μ 36) c (fun k l hk hl => by omega) p c (Nat.le_refl _)
theorem rl_copy_23 {a b c : Nat} (ha : a + c ≤ 40) (hb : b + c ≤ 40) (hS : rl_shs σ μ) {F : Nat → Int32} (hF : ∀ p, F p = if 40 * 3 + b ≤ p ∧ p < 40 * 3 + b + c then μ 36 (40 * 2 + a + (p - (40 * 3 + b))) else μ 36 p) : rl_shs (am_up σ 59 (va_cpy (σ 56) (σ 59) a b c)) (am_up μ 36 F) := by
  have e0 := (rl_shk hS (s := 2) (by decide)).2.2
  refine ⟨?_, ?_, ?_, ?_⟩
  · obtain ⟨g1, g2, g3⟩ := hS.1
    refine ⟨g1, g2, fun j hj => ?_⟩
    show F (40 * 0 + j) = σ 50 j
    rw [hF, if_neg (by omega)]; exact g3 j hj
  · obtain ⟨g1, g2, g3⟩ := hS.2.1
    refine ⟨g1, g2, fun j hj => ?_⟩
    show F (40 * 1 + j) = σ 53 j
    rw [hF, if_neg (by omega)]; exact g3 j hj
  · obtain ⟨g1, g2, g3⟩ := hS.2.2.1
    refine ⟨g1, g2, fun j hj => ?_⟩
    show F (40 * 2 + j) = σ 56 j
    rw [hF, if_neg (by omega)]; exact g3 j hj
  · obtain ⟨g1, g2, g3⟩ := hS.2.2.2
    refine ⟨g1, g2, fun j hj => ?_⟩
    show F (40 * 3 + j) = (if b ≤ j ∧ j < b + c then σ 56 (a + (j - b)) else σ 59 j)
    rw [hF]
    by_cases g : b ≤ j ∧ j < b + c
    · rw [if_pos g, if_pos (by omega), show 40 * 2 + a + (40 * 3 + j - (40 * 3 + b)) = 40 * 2 + (a + (j - b)) by omega]
      exact e0 (a + (j - b)) (by omega)
    · rw [if_neg g, if_neg (by omega)]; exact g3 j hj
theorem op_copy_23 (h : rl_ σ sr ln Lc μ O T) (i j n : Int32) : op_I xs LL 119 205 [.int (nI 2), .int i, .int (nI 3), .int j, .int n] σ sr ln Lc μ := by
  have h' := h
  obtain ⟨hWF, hRK, hRL, hRO, hT, hM, hS, h10, h20⟩ := h'
  obtain ⟨z, hz40, hz, hzm⟩ := (rl_shk hS (s := 2) (by decide)).2.1
  obtain ⟨y, hy40, hy, hym⟩ := (rl_shk hS (s := 3) (by decide)).2.1
  rcases rl_sh33 hS (s := 2) (by decide) with ⟨g1, g2⟩ | ⟨g1, g2, g3, q, hq, g4⟩
  · exact op_same h (-11) (sp_X11_copy_23m 9 i j n g1) (sp_X12_copy_m1 8 2 (by decide) 3 (by decide) i j n g2)
  · rcases rl_sh33 hS (s := 3) (by decide) with ⟨k1, k2⟩ | ⟨k1, k2, k3, q', hq', k4⟩
    · exact op_same h (-11) (sp_X11_copy_23m2 9 i j n g1 k1) (sp_X12_copy_m2 8 2 (by decide) 3 (by decide) i j n g2 k2)
    · by_cases hx : σ 57 0 = σ 60 0
      · have hx2 : μ 34 2 = μ 34 3 := g3.trans (hx.trans k3.symm)
        cases hc : (pu_cv z i n && pu_cv y j n) with
        | false => exact op_same h (-12) (sp_X11_copy_23o 9 i j n g1 k1 hx hz hz40 hy hy40 hc) (sp_X12_copy_o 8 2 (by decide) 3 (by decide) i j n g2 k2 hx2 hzm hz40 hym hy40 (by rw [← pu_cv_cvM hz40 hy40]; exact hc))
        | true =>
          obtain ⟨c1, c2⟩ := (Bool.and_eq_true _ _).mp hc
          have d1 := (pu_cv_iff hz40).mp c1
          have d2 := (pu_cv_iff hy40).mp c2
          obtain ⟨a, rfl, e1⟩ := rl_nat d1.1 (by omega)
          obtain ⟨b, rfl, e2⟩ := rl_nat d2.1 (by omega)
          obtain ⟨c, rfl, e3⟩ := rl_nat d1.2.1 (by omega)
          have ha : a + c ≤ z := by omega
          have hb : b + c ≤ y := by omega
          refine ⟨_, _, _, _, _, _, O, T, sp_X11_copy_23q 9 a b c g1 k1 hx hz hz40 hy hy40 ha hb c1 c2, sp_X12_copy_dn1 8 2 (by decide) 3 (by decide) g2 k2 hx2 hzm hz40 hym hy40 a b c ha hb (by decide), hWF, hRK, hRL, hRO, hT, hM, rl_copy_23 (by omega) (by omega) hS ?_, rl_set_fr (σ := σ) rfl rfl rfl rfl rfl rfl rfl rfl rfl h10, rl_set_fr (σ := σ) rfl rfl rfl rfl rfl rfl rfl rfl rfl h20⟩
          intro p
          exact rl_dnc (40 * 2 + a) (40 * 3 + b) (μ 36) c (fun k l hk hl => by omega) p c (Nat.le_refl _)
      · exact op_same h (-13) (sp_X11_copy_23x 9 i j n g1 k1 hx) (sp_X12_copy_x 8 2 (by decide) 3 (by decide) i j n g2 k2 (by rw [g3, k3]; exact hx))
theorem rl_copy_30 {a b c : Nat} (ha : a + c ≤ 40) (hb : b + c ≤ 40) (hS : rl_shs σ μ) {F : Nat → Int32} (hF : ∀ p, F p = if 40 * 0 + b ≤ p ∧ p < 40 * 0 + b + c then μ 36 (40 * 3 + a + (p - (40 * 0 + b))) else μ 36 p) : rl_shs (am_up σ 50 (va_cpy (σ 59) (σ 50) a b c)) (am_up μ 36 F) := by
  have e0 := (rl_shk hS (s := 3) (by decide)).2.2
  refine ⟨?_, ?_, ?_, ?_⟩
  · obtain ⟨g1, g2, g3⟩ := hS.1
    refine ⟨g1, g2, fun j hj => ?_⟩
    show F (40 * 0 + j) = (if b ≤ j ∧ j < b + c then σ 59 (a + (j - b)) else σ 50 j)
    rw [hF]
    by_cases g : b ≤ j ∧ j < b + c
    · rw [if_pos g, if_pos (by omega), show 40 * 3 + a + (40 * 0 + j - (40 * 0 + b)) = 40 * 3 + (a + (j - b)) by omega]
      exact e0 (a + (j - b)) (by omega)
    · rw [if_neg g, if_neg (by omega)]; exact g3 j hj
  · obtain ⟨g1, g2, g3⟩ := hS.2.1
    refine ⟨g1, g2, fun j hj => ?_⟩
    show F (40 * 1 + j) = σ 53 j
    rw [hF, if_neg (by omega)]; exact g3 j hj
  · obtain ⟨g1, g2, g3⟩ := hS.2.2.1
    refine ⟨g1, g2, fun j hj => ?_⟩
    show F (40 * 2 + j) = σ 56 j
    rw [hF, if_neg (by omega)]; exact g3 j hj
  · obtain ⟨g1, g2, g3⟩ := hS.2.2.2
    refine ⟨g1, g2, fun j hj => ?_⟩
    show F (40 * 3 + j) = σ 59 j
    rw [hF, if_neg (by omega)]; exact g3 j hj
theorem op_copy_30 (h : rl_ σ sr ln Lc μ O T) (i j n : Int32) : op_I xs LL 119 205 [.int (nI 3), .int i, .int (nI 0), .int j, .int n] σ sr ln Lc μ := by
  have h' := h
  obtain ⟨hWF, hRK, hRL, hRO, hT, hM, hS, h10, h20⟩ := h'
  obtain ⟨z, hz40, hz, hzm⟩ := (rl_shk hS (s := 3) (by decide)).2.1
  obtain ⟨y, hy40, hy, hym⟩ := (rl_shk hS (s := 0) (by decide)).2.1
  rcases rl_sh33 hS (s := 3) (by decide) with ⟨g1, g2⟩ | ⟨g1, g2, g3, q, hq, g4⟩
  · exact op_same h (-11) (sp_X11_copy_30m 9 i j n g1) (sp_X12_copy_m1 8 3 (by decide) 0 (by decide) i j n g2)
  · rcases rl_sh33 hS (s := 0) (by decide) with ⟨k1, k2⟩ | ⟨k1, k2, k3, q', hq', k4⟩
    · exact op_same h (-11) (sp_X11_copy_30m2 9 i j n g1 k1) (sp_X12_copy_m2 8 3 (by decide) 0 (by decide) i j n g2 k2)
    · by_cases hx : σ 60 0 = σ 51 0
      · have hx2 : μ 34 3 = μ 34 0 := g3.trans (hx.trans k3.symm)
        cases hc : (pu_cv z i n && pu_cv y j n) with
        | false => exact op_same h (-12) (sp_X11_copy_30o 9 i j n g1 k1 hx hz hz40 hy hy40 hc) (sp_X12_copy_o 8 3 (by decide) 0 (by decide) i j n g2 k2 hx2 hzm hz40 hym hy40 (by rw [← pu_cv_cvM hz40 hy40]; exact hc))
        | true =>
          obtain ⟨c1, c2⟩ := (Bool.and_eq_true _ _).mp hc
          have d1 := (pu_cv_iff hz40).mp c1
          have d2 := (pu_cv_iff hy40).mp c2
          obtain ⟨a, rfl, e1⟩ := rl_nat d1.1 (by omega)
          obtain ⟨b, rfl, e2⟩ := rl_nat d2.1 (by omega)
          obtain ⟨c, rfl, e3⟩ := rl_nat d1.2.1 (by omega)
          have ha : a + c ≤ z := by omega
          have hb : b + c ≤ y := by omega
          refine ⟨_, _, _, _, _, _, O, T, sp_X11_copy_30q 9 a b c g1 k1 hx hz hz40 hy hy40 ha hb c1 c2, sp_X12_copy_dn1 8 3 (by decide) 0 (by decide) g2 k2 hx2 hzm hz40 hym hy40 a b c ha hb (by decide), hWF, hRK, hRL, hRO, hT, hM, rl_copy_30 (by omega) (by omega) hS ?_, rl_set_fr (σ := σ) rfl rfl rfl rfl rfl rfl rfl rfl rfl h10, rl_set_fr (σ := σ) rfl rfl rfl rfl rfl rfl rfl rfl rfl h20⟩
          intro p
          exact rl_dnc (40 * 3 + a) (40 * 0 + b) (μ 36) c (fun k l hk hl => by omega) p c (Nat.le_refl _)
      · exact op_same h (-13) (sp_X11_copy_30x 9 i j n g1 k1 hx) (sp_X12_copy_x 8 3 (by decide) 0 (by decide) i j n g2 k2 (by rw [g3, k3]; exact hx))
theorem rl_copy_31 {a b c : Nat} (ha : a + c ≤ 40) (hb : b + c ≤ 40) (hS : rl_shs σ μ) {F : Nat → Int32} (hF : ∀ p, F p = if 40 * 1 + b ≤ p ∧ p < 40 * 1 + b + c then μ 36 (40 * 3 + a + (p - (40 * 1 + b))) else μ 36 p) : rl_shs (am_up σ 53 (va_cpy (σ 59) (σ 53) a b c)) (am_up μ 36 F) := by
  have e0 := (rl_shk hS (s := 3) (by decide)).2.2
  refine ⟨?_, ?_, ?_, ?_⟩
  · obtain ⟨g1, g2, g3⟩ := hS.1
    refine ⟨g1, g2, fun j hj => ?_⟩
    show F (40 * 0 + j) = σ 50 j
    rw [hF, if_neg (by omega)]; exact g3 j hj
  · obtain ⟨g1, g2, g3⟩ := hS.2.1
    refine ⟨g1, g2, fun j hj => ?_⟩
    show F (40 * 1 + j) = (if b ≤ j ∧ j < b + c then σ 59 (a + (j - b)) else σ 53 j)
    rw [hF]
    by_cases g : b ≤ j ∧ j < b + c
    · rw [if_pos g, if_pos (by omega), show 40 * 3 + a + (40 * 1 + j - (40 * 1 + b)) = 40 * 3 + (a + (j - b)) by omega]
      exact e0 (a + (j - b)) (by omega)
    · rw [if_neg g, if_neg (by omega)]; exact g3 j hj
  · obtain ⟨g1, g2, g3⟩ := hS.2.2.1
    refine ⟨g1, g2, fun j hj => ?_⟩
    show F (40 * 2 + j) = σ 56 j
    rw [hF, if_neg (by omega)]; exact g3 j hj
  · obtain ⟨g1, g2, g3⟩ := hS.2.2.2
    refine ⟨g1, g2, fun j hj => ?_⟩
    show F (40 * 3 + j) = σ 59 j
    rw [hF, if_neg (by omega)]; exact g3 j hj
theorem op_copy_31 (h : rl_ σ sr ln Lc μ O T) (i j n : Int32) : op_I xs LL 119 205 [.int (nI 3), .int i, .int (nI 1), .int j, .int n] σ sr ln Lc μ := by
  have h' := h
  obtain ⟨hWF, hRK, hRL, hRO, hT, hM, hS, h10, h20⟩ := h'
  obtain ⟨z, hz40, hz, hzm⟩ := (rl_shk hS (s := 3) (by decide)).2.1
  obtain ⟨y, hy40, hy, hym⟩ := (rl_shk hS (s := 1) (by decide)).2.1
  rcases rl_sh33 hS (s := 3) (by decide) with ⟨g1, g2⟩ | ⟨g1, g2, g3, q, hq, g4⟩
  · exact op_same h (-11) (sp_X11_copy_31m 9 i j n g1) (sp_X12_copy_m1 8 3 (by decide) 1 (by decide) i j n g2)
  · rcases rl_sh33 hS (s := 1) (by decide) with ⟨k1, k2⟩ | ⟨k1, k2, k3, q', hq', k4⟩
    · exact op_same h (-11) (sp_X11_copy_31m2 9 i j n g1 k1) (sp_X12_copy_m2 8 3 (by decide) 1 (by decide) i j n g2 k2)
    · by_cases hx : σ 60 0 = σ 54 0
      · have hx2 : μ 34 3 = μ 34 1 := g3.trans (hx.trans k3.symm)
        cases hc : (pu_cv z i n && pu_cv y j n) with
        | false => exact op_same h (-12) (sp_X11_copy_31o 9 i j n g1 k1 hx hz hz40 hy hy40 hc) (sp_X12_copy_o 8 3 (by decide) 1 (by decide) i j n g2 k2 hx2 hzm hz40 hym hy40 (by rw [← pu_cv_cvM hz40 hy40]; exact hc))
        | true =>
          obtain ⟨c1, c2⟩ := (Bool.and_eq_true _ _).mp hc
          have d1 := (pu_cv_iff hz40).mp c1
          have d2 := (pu_cv_iff hy40).mp c2
          obtain ⟨a, rfl, e1⟩ := rl_nat d1.1 (by omega)
          obtain ⟨b, rfl, e2⟩ := rl_nat d2.1 (by omega)
          obtain ⟨c, rfl, e3⟩ := rl_nat d1.2.1 (by omega)
          have ha : a + c ≤ z := by omega
          have hb : b + c ≤ y := by omega
          refine ⟨_, _, _, _, _, _, O, T, sp_X11_copy_31q 9 a b c g1 k1 hx hz hz40 hy hy40 ha hb c1 c2, sp_X12_copy_dn1 8 3 (by decide) 1 (by decide) g2 k2 hx2 hzm hz40 hym hy40 a b c ha hb (by decide), hWF, hRK, hRL, hRO, hT, hM, rl_copy_31 (by omega) (by omega) hS ?_, rl_set_fr (σ := σ) rfl rfl rfl rfl rfl rfl rfl rfl rfl h10, rl_set_fr (σ := σ) rfl rfl rfl rfl rfl rfl rfl rfl rfl h20⟩
          intro p
          exact rl_dnc (40 * 3 + a) (40 * 1 + b) (μ 36) c (fun k l hk hl => by omega) p c (Nat.le_refl _)
      · exact op_same h (-13) (sp_X11_copy_31x 9 i j n g1 k1 hx) (sp_X12_copy_x 8 3 (by decide) 1 (by decide) i j n g2 k2 (by rw [g3, k3]; exact hx))
theorem rl_copy_32 {a b c : Nat} (ha : a + c ≤ 40) (hb : b + c ≤ 40) (hS : rl_shs σ μ) {F : Nat → Int32} (hF : ∀ p, F p = if 40 * 2 + b ≤ p ∧ p < 40 * 2 + b + c then μ 36 (40 * 3 + a + (p - (40 * 2 + b))) else μ 36 p) : rl_shs (am_up σ 56 (va_cpy (σ 59) (σ 56) a b c)) (am_up μ 36 F) := by
  have e0 := (rl_shk hS (s := 3) (by decide)).2.2
  refine ⟨?_, ?_, ?_, ?_⟩
  · obtain ⟨g1, g2, g3⟩ := hS.1
    refine ⟨g1, g2, fun j hj => ?_⟩
    show F (40 * 0 + j) = σ 50 j
    rw [hF, if_neg (by omega)]; exact g3 j hj
  · obtain ⟨g1, g2, g3⟩ := hS.2.1
    refine ⟨g1, g2, fun j hj => ?_⟩
    show F (40 * 1 + j) = σ 53 j
    rw [hF, if_neg (by omega)]; exact g3 j hj
  · obtain ⟨g1, g2, g3⟩ := hS.2.2.1
    refine ⟨g1, g2, fun j hj => ?_⟩
    show F (40 * 2 + j) = (if b ≤ j ∧ j < b + c then σ 59 (a + (j - b)) else σ 56 j)
    rw [hF]
    by_cases g : b ≤ j ∧ j < b + c
    · rw [if_pos g, if_pos (by omega), show 40 * 3 + a + (40 * 2 + j - (40 * 2 + b)) = 40 * 3 + (a + (j - b)) by omega]
      exact e0 (a + (j - b)) (by omega)
    · rw [if_neg g, if_neg (by omega)]; exact g3 j hj
  · obtain ⟨g1, g2, g3⟩ := hS.2.2.2
    refine ⟨g1, g2, fun j hj => ?_⟩
    show F (40 * 3 + j) = σ 59 j
    rw [hF, if_neg (by omega)]; exact g3 j hj
theorem op_copy_32 (h : rl_ σ sr ln Lc μ O T) (i j n : Int32) : op_I xs LL 119 205 [.int (nI 3), .int i, .int (nI 2), .int j, .int n] σ sr ln Lc μ := by
  have h' := h
  obtain ⟨hWF, hRK, hRL, hRO, hT, hM, hS, h10, h20⟩ := h'
  obtain ⟨z, hz40, hz, hzm⟩ := (rl_shk hS (s := 3) (by decide)).2.1
  obtain ⟨y, hy40, hy, hym⟩ := (rl_shk hS (s := 2) (by decide)).2.1
  rcases rl_sh33 hS (s := 3) (by decide) with ⟨g1, g2⟩ | ⟨g1, g2, g3, q, hq, g4⟩
  · exact op_same h (-11) (sp_X11_copy_32m 9 i j n g1) (sp_X12_copy_m1 8 3 (by decide) 2 (by decide) i j n g2)
  · rcases rl_sh33 hS (s := 2) (by decide) with ⟨k1, k2⟩ | ⟨k1, k2, k3, q', hq', k4⟩
    · exact op_same h (-11) (sp_X11_copy_32m2 9 i j n g1 k1) (sp_X12_copy_m2 8 3 (by decide) 2 (by decide) i j n g2 k2)
    · by_cases hx : σ 60 0 = σ 57 0
      · have hx2 : μ 34 3 = μ 34 2 := g3.trans (hx.trans k3.symm)
        cases hc : (pu_cv z i n && pu_cv y j n) with
        | false => exact op_same h (-12) (sp_X11_copy_32o 9 i j n g1 k1 hx hz hz40 hy hy40 hc) (sp_X12_copy_o 8 3 (by decide) 2 (by decide) i j n g2 k2 hx2 hzm hz40 hym hy40 (by rw [← pu_cv_cvM hz40 hy40]; exact hc))
        | true =>
          obtain ⟨c1, c2⟩ := (Bool.and_eq_true _ _).mp hc
          have d1 := (pu_cv_iff hz40).mp c1
          have d2 := (pu_cv_iff hy40).mp c2
          obtain ⟨a, rfl, e1⟩ := rl_nat d1.1 (by omega)
          obtain ⟨b, rfl, e2⟩ := rl_nat d2.1 (by omega)
          obtain ⟨c, rfl, e3⟩ := rl_nat d1.2.1 (by omega)
          have ha : a + c ≤ z := by omega
          have hb : b + c ≤ y := by omega
          refine ⟨_, _, _, _, _, _, O, T, sp_X11_copy_32q 9 a b c g1 k1 hx hz hz40 hy hy40 ha hb c1 c2, sp_X12_copy_dn1 8 3 (by decide) 2 (by decide) g2 k2 hx2 hzm hz40 hym hy40 a b c ha hb (by decide), hWF, hRK, hRL, hRO, hT, hM, rl_copy_32 (by omega) (by omega) hS ?_, rl_set_fr (σ := σ) rfl rfl rfl rfl rfl rfl rfl rfl rfl h10, rl_set_fr (σ := σ) rfl rfl rfl rfl rfl rfl rfl rfl rfl h20⟩
          intro p
          exact rl_dnc (40 * 3 + a) (40 * 2 + b) (μ 36) c (fun k l hk hl => by omega) p c (Nat.le_refl _)
      · exact op_same h (-13) (sp_X11_copy_32x 9 i j n g1 k1 hx) (sp_X12_copy_x 8 3 (by decide) 2 (by decide) i j n g2 k2 (by rw [g3, k3]; exact hx))
theorem rl_copy_33 {a b c : Nat} (ha : a + c ≤ 40) (hb : b + c ≤ 40) (hS : rl_shs σ μ) {F : Nat → Int32} (hF : ∀ p, F p = if 40 * 3 + b ≤ p ∧ p < 40 * 3 + b + c then μ 36 (40 * 3 + a + (p - (40 * 3 + b))) else μ 36 p) : rl_shs (am_up σ 59 (va_cpy (σ 59) (σ 59) a b c)) (am_up μ 36 F) := by
  have e0 := (rl_shk hS (s := 3) (by decide)).2.2
  refine ⟨?_, ?_, ?_, ?_⟩
  · obtain ⟨g1, g2, g3⟩ := hS.1
    refine ⟨g1, g2, fun j hj => ?_⟩
    show F (40 * 0 + j) = σ 50 j
    rw [hF, if_neg (by omega)]; exact g3 j hj
  · obtain ⟨g1, g2, g3⟩ := hS.2.1
    refine ⟨g1, g2, fun j hj => ?_⟩
    show F (40 * 1 + j) = σ 53 j
    rw [hF, if_neg (by omega)]; exact g3 j hj
  · obtain ⟨g1, g2, g3⟩ := hS.2.2.1
    refine ⟨g1, g2, fun j hj => ?_⟩
    show F (40 * 2 + j) = σ 56 j
    rw [hF, if_neg (by omega)]; exact g3 j hj
  · obtain ⟨g1, g2, g3⟩ := hS.2.2.2
    refine ⟨g1, g2, fun j hj => ?_⟩
    show F (40 * 3 + j) = (if b ≤ j ∧ j < b + c then σ 59 (a + (j - b)) else σ 59 j)
    rw [hF]
    by_cases g : b ≤ j ∧ j < b + c
    · rw [if_pos g, if_pos (by omega), show 40 * 3 + a + (40 * 3 + j - (40 * 3 + b)) = 40 * 3 + (a + (j - b)) by omega]
      exact e0 (a + (j - b)) (by omega)
    · rw [if_neg g, if_neg (by omega)]; exact g3 j hj
theorem op_copy_33 (h : rl_ σ sr ln Lc μ O T) (i j n : Int32) : op_I xs LL 119 205 [.int (nI 3), .int i, .int (nI 3), .int j, .int n] σ sr ln Lc μ := by
  have h' := h
  obtain ⟨hWF, hRK, hRL, hRO, hT, hM, hS, h10, h20⟩ := h'
  obtain ⟨z, hz40, hz, hzm⟩ := (rl_shk hS (s := 3) (by decide)).2.1
  rcases rl_sh33 hS (s := 3) (by decide) with ⟨g1, g2⟩ | ⟨g1, g2, g3, q, hq, g4⟩
  · exact op_same h (-11) (sp_X11_copy_33m 9 i j n g1) (sp_X12_copy_m1 8 3 (by decide) 3 (by decide) i j n g2)
  · cases hc : (pu_cv z i n && pu_cv z j n) with
    | false => exact op_same h (-12) (sp_X11_copy_33o 9 i j n g1 hz hz40 hc) (sp_X12_copy_o 8 3 (by decide) 3 (by decide) i j n g2 g2 rfl hzm hz40 hzm hz40 (by rw [← pu_cv_cvM hz40 hz40]; exact hc))
    | true =>
      obtain ⟨c1, c2⟩ := (Bool.and_eq_true _ _).mp hc
      have d1 := (pu_cv_iff hz40).mp c1
      have d2 := (pu_cv_iff hz40).mp c2
      obtain ⟨a, rfl, e1⟩ := rl_nat d1.1 (by omega)
      obtain ⟨b, rfl, e2⟩ := rl_nat d2.1 (by omega)
      obtain ⟨c, rfl, e3⟩ := rl_nat d1.2.1 (by omega)
      have ha : a + c ≤ z := by omega
      have hb : b + c ≤ z := by omega
      by_cases hab : a < b
      · refine ⟨_, _, _, _, _, _, O, T, sp_X11_copy_33q 9 a b c g1 hz hz40 ha hb c1 c2, sp_X12_copy_up 8 3 (by decide) 3 (by decide) g2 g2 rfl hzm hz40 hzm hz40 a b c ha hb rfl hab, hWF, hRK, hRL, hRO, hT, hM, rl_copy_33 (by omega) (by omega) hS ?_, rl_set_fr (σ := σ) rfl rfl rfl rfl rfl rfl rfl rfl rfl h10, rl_set_fr (σ := σ) rfl rfl rfl rfl rfl rfl rfl rfl rfl h20⟩
        intro p
        have e := rl_upc (40 * 3 + a) (40 * 3 + b) c (μ 36) (by omega) p c (Nat.le_refl _)
        rw [Nat.sub_self] at e
        exact e
      · refine ⟨_, _, _, _, _, _, O, T, sp_X11_copy_33q 9 a b c g1 hz hz40 ha hb c1 c2, sp_X12_copy_dn2 8 3 (by decide) 3 (by decide) g2 g2 rfl hzm hz40 hzm hz40 a b c ha hb rfl (by omega), hWF, hRK, hRL, hRO, hT, hM, rl_copy_33 (by omega) (by omega) hS ?_, rl_set_fr (σ := σ) rfl rfl rfl rfl rfl rfl rfl rfl rfl h10, rl_set_fr (σ := σ) rfl rfl rfl rfl rfl rfl rfl rfl rfl h20⟩
        intro p
        exact rl_dnc (40 * 3 + a) (40 * 3 + b) (μ 36) c (fun k l hk hl => by omega) p c (Nat.le_refl _)
theorem op_copy (h : rl_ σ sr ln Lc μ O T) (s i t j n : Int32) : op_I xs LL 119 205 [.int s, .int i, .int t, .int j, .int n] σ sr ln Lc μ := by
  cases e : am_in s 4 with
  | false =>
    cases e2 : am_in t 4 with
    | false => exact op_same h (-2) (sp_X11_copy_bb 9 s i t j n e e2) (sp_X12_copy_b1 8 s i t j n e)
    | true =>
      obtain ⟨t, ht, rfl⟩ := am_in_nI e2
      match t, ht with
      | 0, _ => exact op_same h (-2) (sp_X11_copy_b0 9 s i j n e) (sp_X12_copy_b1 8 s i (nI 0) j n e)
      | 1, _ => exact op_same h (-2) (sp_X11_copy_b1 9 s i j n e) (sp_X12_copy_b1 8 s i (nI 1) j n e)
      | 2, _ => exact op_same h (-2) (sp_X11_copy_b2 9 s i j n e) (sp_X12_copy_b1 8 s i (nI 2) j n e)
      | 3, _ => exact op_same h (-2) (sp_X11_copy_b3 9 s i j n e) (sp_X12_copy_b1 8 s i (nI 3) j n e)
  | true =>
    obtain ⟨s, hs, rfl⟩ := am_in_nI e
    cases e2 : am_in t 4 with
    | false =>
      match s, hs with
      | 0, _ => exact op_same h (-2) (sp_X11_copy_0b 9 i t j n e2) (sp_X12_copy_b2 8 0 (by decide) i t j n e2)
      | 1, _ => exact op_same h (-2) (sp_X11_copy_1b 9 i t j n e2) (sp_X12_copy_b2 8 1 (by decide) i t j n e2)
      | 2, _ => exact op_same h (-2) (sp_X11_copy_2b 9 i t j n e2) (sp_X12_copy_b2 8 2 (by decide) i t j n e2)
      | 3, _ => exact op_same h (-2) (sp_X11_copy_3b 9 i t j n e2) (sp_X12_copy_b2 8 3 (by decide) i t j n e2)
    | true =>
      obtain ⟨t, ht, rfl⟩ := am_in_nI e2
      match s, hs, t, ht with
      | 0, _, 0, _ => exact op_copy_00 h i j n
      | 0, _, 1, _ => exact op_copy_01 h i j n
      | 0, _, 2, _ => exact op_copy_02 h i j n
      | 0, _, 3, _ => exact op_copy_03 h i j n
      | 1, _, 0, _ => exact op_copy_10 h i j n
      | 1, _, 1, _ => exact op_copy_11 h i j n
      | 1, _, 2, _ => exact op_copy_12 h i j n
      | 1, _, 3, _ => exact op_copy_13 h i j n
      | 2, _, 0, _ => exact op_copy_20 h i j n
      | 2, _, 1, _ => exact op_copy_21 h i j n
      | 2, _, 2, _ => exact op_copy_22 h i j n
      | 2, _, 3, _ => exact op_copy_23 h i j n
      | 3, _, 0, _ => exact op_copy_30 h i j n
      | 3, _, 1, _ => exact op_copy_31 h i j n
      | 3, _, 2, _ => exact op_copy_32 h i j n
      | 3, _, 3, _ => exact op_copy_33 h i j n
end OS
