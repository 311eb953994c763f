/-! line -/
section OLN
variable {xs : Nat → Int32} {LL : Nat} {σ τ μ μ2 μ3 : Nat → Nat → Int32} {sr : Nat → Nat} {ln lm : Nat → Nat → Int32} {Lc O T : Nat}
/-- the reference's lines before the one that was read -/
def rl_fr (n : Nat) (μ μ2 : Nat → Nat → Int32) : Prop := (∀ j, (j < 7 ∨ 11 < j) → ¬ j = 22 → ¬ j = 23 → μ2 j = μ j) ∧ (∀ i, ¬ i = n → μ2 7 i = μ 7 i ∧ μ2 8 i = μ 8 i ∧ μ2 9 i = μ 9 i ∧ μ2 10 i = μ 10 i ∧ μ2 11 i = μ 11 i)
theorem rl_RLp (g : rl_fr Lc μ μ2) (h : am_RL sr ln Lc μ) : am_RL sr ln Lc μ2 := by
  obtain ⟨f1, f2⟩ := g
  obtain ⟨h1, h2, h3, h4, h5, h6, h7, h8, h9, h10, h11⟩ := h
  refine ⟨?_, fun i hi => ?_, fun i hi => ?_, fun i hi => ?_, fun i hi => ?_, fun i hi => ?_, fun i hi => ?_, fun i hi => ?_, fun i hi => ?_, fun i hi => ?_, fun i hi => ?_⟩
  · rw [f1 17 (by decide) (by decide) (by decide)]; exact h1
  · rw [(f2 i (by omega)).1]; exact h2 i hi
  · rw [(f2 i (by omega)).2.1]; exact h3 i hi
  · rw [(f2 i (by omega)).2.2.1]; exact h4 i hi
  · rw [(f2 i (by omega)).2.2.2.1]; exact h5 i hi
  · rw [(f2 i (by omega)).2.2.2.2]; exact h6 i hi
  · rw [f1 12 (by decide) (by decide) (by decide)]; exact h7 i hi
  · rw [f1 13 (by decide) (by decide) (by decide)]; exact h8 i hi
  · rw [f1 14 (by decide) (by decide) (by decide)]; exact h9 i hi
  · rw [f1 15 (by decide) (by decide) (by decide)]; exact h10 i hi
  · rw [f1 16 (by decide) (by decide) (by decide)]; exact h11 i hi
theorem rl_RKp (g : rl_fr Lc μ μ2) (h : am_RK σ μ) : am_RK σ μ2 := by
  obtain ⟨f1, f2⟩ := g
  obtain ⟨e1, e2, e4, e5, e6, K, hK8, hK3, hK5⟩ := h
  refine ⟨?_, ?_, ?_, ?_, ?_, K, hK8, ?_, hK5⟩
  · rw [f1 1 (by decide) (by decide) (by decide)]; exact e1
  · rw [f1 2 (by decide) (by decide) (by decide)]; exact e2
  · rw [f1 4 (by decide) (by decide) (by decide)]; exact e4
  · rw [f1 5 (by decide) (by decide) (by decide)]; exact e5
  · rw [f1 6 (by decide) (by decide) (by decide)]; exact e6
  · rw [f1 3 (by decide) (by decide) (by decide)]; exact hK3
theorem rl_ROp (g : rl_fr Lc μ μ2) (h : am_RO σ sr ln Lc O μ) : am_RO σ sr ln Lc O μ2 := by
  obtain ⟨f1, f2⟩ := g
  obtain ⟨r1, r2, r3, r4, r5⟩ := h
  refine ⟨r1, r2, ?_, ?_, ?_⟩
  · rw [f1 19 (by decide) (by decide) (by decide)]; exact r3
  · rw [f1 18 (by decide) (by decide) (by decide)]; exact r4
  · rw [f1 18 (by decide) (by decide) (by decide)]; exact r5
theorem rl_machp (g : rl_fr Lc μ μ2) (h : rl_mach σ μ) : rl_mach σ μ2 := by
  unfold rl_mach
  rw [g.1 30 (by decide) (by decide) (by decide), g.1 31 (by decide) (by decide) (by decide)]
  exact h
theorem rl_shsp (g : rl_fr Lc μ μ2) (h : rl_shs σ μ) : rl_shs σ μ2 := by
  unfold rl_shs rl_she
  rw [g.1 33 (by decide) (by decide) (by decide), g.1 34 (by decide) (by decide) (by decide), g.1 35 (by decide) (by decide) (by decide), g.1 36 (by decide) (by decide) (by decide)]
  exact h
theorem rl_tapep (g : rl_fr Lc μ μ2) (h : rl_tape σ μ T) : rl_tape σ μ2 T := by
  unfold rl_tape
  rw [g.1 20 (by decide) (by decide) (by decide), g.1 21 (by decide) (by decide) (by decide)]
  exact h
theorem rl_RLn (hRL : am_RL sr ln Lc μ) (g : rl_fr Lc μ μ2) {s : Nat} {f : Nat → Int32} {t k ob : Int32} (n7 : μ2 7 Lc = nI s) (n8 : μ2 8 Lc = f 0) (n9 : μ2 9 Lc = f 1) (n10 : μ2 10 Lc = f 2) (n11 : μ2 11 Lc = if s = 4 then f 7 else -1) (f3 : f 3 = t) (f4 : f 4 = k) (f6 : f 6 = 1) (f5 : f 5 = -1) (hob : ob = if s = 5 then f 7 else -1) (a7 : μ3 7 = μ2 7) (a8 : μ3 8 = μ2 8) (a9 : μ3 9 = μ2 9) (a10 : μ3 10 = μ2 10) (a11 : μ3 11 = μ2 11) (a12 : μ3 12 = upd (μ2 12) Lc t) (a13 : μ3 13 = upd (μ2 13) Lc k) (a14 : μ3 14 = upd (μ2 14) Lc 1) (a15 : μ3 15 = upd (μ2 15) Lc (-1)) (a16 : ∀ i, μ3 16 i = if i = Lc then ob else μ2 16 i) (a17 : μ3 17 0 = nI Lc + 1) : am_RL (pu_srn sr Lc s) (am_up ln Lc f) (Lc + 1) μ3 := by
  obtain ⟨h1, h2, h3, h4, h5, h6, h7, h8, h9, h10, h11⟩ := rl_RLp g hRL
  have sN : pu_srn sr Lc s Lc = s := by unfold pu_srn; rw [Nat.beq_refl]; rfl
  have sO : ∀ i, ¬ i = Lc → pu_srn sr Lc s i = sr i := fun i hi => by unfold pu_srn; rw [pu_beqN hi]; rfl
  refine ⟨by rw [a17, nI_up], fun i hi => ?_, fun i hi => ?_, fun i hi => ?_, fun i hi => ?_, fun i hi => ?_, fun i hi => ?_, fun i hi => ?_, fun i hi => ?_, fun i hi => ?_, fun i hi => ?_⟩
  · rw [a7]
    by_cases e : i = Lc
    · rw [e, n7, sN]
    · rw [sO i e]; exact h2 i (by omega)
  · rw [a8]
    by_cases e : i = Lc
    · rw [e, n8, am_up_eq]
    · rw [am_up_ne e]; exact h3 i (by omega)
  · rw [a9]
    by_cases e : i = Lc
    · rw [e, n9, am_up_eq]
    · rw [am_up_ne e]; exact h4 i (by omega)
  · rw [a10]
    by_cases e : i = Lc
    · rw [e, n10, am_up_eq]
    · rw [am_up_ne e]; exact h5 i (by omega)
  · rw [a11]
    by_cases e : i = Lc
    · rw [e, n11, sN, am_up_eq]
    · rw [sO i e, am_up_ne e]; exact h6 i (by omega)
  · rw [a12]
    by_cases e : i = Lc
    · rw [e, pu_upl, am_up_eq, f3]
    · rw [pu_upn e, am_up_ne e]; exact h7 i (by omega)
  · rw [a13]
    by_cases e : i = Lc
    · rw [e, pu_upl, am_up_eq, f4]
    · rw [pu_upn e, am_up_ne e]; exact h8 i (by omega)
  · rw [a14]
    by_cases e : i = Lc
    · rw [e, pu_upl, am_up_eq, f6]
    · rw [pu_upn e, am_up_ne e]; exact h9 i (by omega)
  · rw [a15]
    by_cases e : i = Lc
    · rw [e, pu_upl, am_up_eq, f5]
    · rw [pu_upn e, am_up_ne e]; exact h10 i (by omega)
  · rw [a16]
    by_cases e : i = Lc
    · rw [if_pos e, e, sN, am_up_eq, hob]
    · rw [if_neg e, sO i e, am_up_ne e]; exact h11 i (by omega)
theorem rl_WFn (h : am_WF σ sr ln Lc) (hL : Lc < 40) {s : Nat} {f : Nat → Int32} (hs : s < 6) (hw : am_wl s f) (e1 : τ 1 = σ 1) (e2 : τ 2 = σ 2) (e3 : τ 3 = σ 3) (e4 : ∀ p, p < 16 → am_pl 8 (τ 4 p)) : am_WF τ (pu_srn sr Lc s) (am_up ln Lc f) (Lc + 1) := by
  obtain ⟨w1, w2, w3, w4, w5, w6, w7⟩ := h
  refine ⟨by rw [e1]; exact w1, by rw [e2]; exact w2, by rw [e3]; exact w3, e4, fun i hi => ?_, fun i hi => ?_, hL⟩
  · unfold pu_srn
    by_cases e : i = Lc
    · rw [e, Nat.beq_refl]; exact hs
    · rw [pu_beqN e]; exact w5 i (by omega)
  · unfold pu_srn
    by_cases e : i = Lc
    · rw [e, Nat.beq_refl, am_up_eq]; exact hw
    · rw [pu_beqN e, am_up_ne e]; exact w6 i (by omega)
theorem rl_ROn (h : am_RO σ sr ln Lc O μ) {s : Nat} {f : Nat → Int32} (hs : ¬ s = 5) (e6 : τ 6 0 = σ 6 0) (e4 : τ 4 = σ 4) (e18 : μ3 18 = μ 18) (e19 : μ3 19 0 = μ 19 0) : am_RO τ (pu_srn sr Lc s) (am_up ln Lc f) (Lc + 1) O μ3 := by
  obtain ⟨r1, r2, r3, r4, r5⟩ := h
  refine ⟨r1, by rw [e6]; exact r2, by rw [e19]; exact r3, fun o ho => ?_, fun l hl hsl => ?_⟩
  · obtain ⟨l, a1, a2, a3, a4, a5⟩ := r4 o ho
    refine ⟨l, by omega, by rw [e18]; exact a2, ?_, ?_, ?_⟩
    · unfold pu_srn; rw [pu_beqN (by omega)]; exact a3
    · rw [am_up_ne (by omega)]; exact a4
    · rw [am_up_ne (by omega), e4]; exact a5
  · by_cases e : l = Lc
    · exfalso
      unfold pu_srn at hsl
      rw [e, Nat.beq_refl] at hsl
      exact hs hsl
    · unfold pu_srn at hsl
      rw [pu_beqN e] at hsl
      obtain ⟨o, a1, a2, a3⟩ := r5 l (by omega) hsl
      exact ⟨o, a1, by rw [am_up_ne e]; exact a2, by rw [e18]; exact a3⟩
theorem rl_ROm (h : am_RO σ sr ln Lc O μ) {s : Nat} {f : Nat → Int32} (hO : O < 16) (hs : s = 5) (f7 : f 7 = nI O) (e6 : τ 6 0 = nI (O + 1)) (e4 : τ 4 = upd (σ 4) O (f 2)) (e18 : μ3 18 = upd (μ 18) O (nI Lc)) (e19 : μ3 19 0 = nI O + 1) : am_RO τ (pu_srn sr Lc s) (am_up ln Lc f) (Lc + 1) (O + 1) μ3 := by
  obtain ⟨r1, r2, r3, r4, r5⟩ := h
  refine ⟨hO, e6, by rw [e19, nI_up], fun o ho => ?_, fun l hl hsl => ?_⟩
  · by_cases eo : o = O
    · refine ⟨Lc, by omega, by rw [e18, eo, pu_upl], ?_, ?_, ?_⟩
      · unfold pu_srn; rw [Nat.beq_refl]; exact hs
      · rw [am_up_eq, eo]; exact f7
      · rw [am_up_eq, e4, eo, pu_upl]
    · obtain ⟨l, a1, a2, a3, a4, a5⟩ := r4 o (by omega)
      refine ⟨l, by omega, by rw [e18, pu_upn eo]; exact a2, ?_, ?_, ?_⟩
      · unfold pu_srn; rw [pu_beqN (by omega)]; exact a3
      · rw [am_up_ne (by omega)]; exact a4
      · rw [am_up_ne (by omega), e4, pu_upn eo]; exact a5
  · by_cases e : l = Lc
    · exact ⟨O, by omega, by rw [e, am_up_eq]; exact f7, by rw [e18, pu_upl, e]⟩
    · unfold pu_srn at hsl
      rw [pu_beqN e] at hsl
      obtain ⟨o, a1, a2, a3⟩ := r5 l (by omega) hsl
      exact ⟨o, by omega, by rw [am_up_ne e]; exact a2, by rw [e18, pu_upn (by omega)]; exact a3⟩
theorem rl_pc {a b : Bool} (ha : a = true) (hb : b = true) : (a && b) = true := by rw [ha, hb]; rfl
theorem rl_m1 (n : Nat) : nI n + 1 - 1 = nI n := Int32.add_sub_cancel (nI n) 1
theorem rl_hT0 : rl_tape (am_us σ 8 0) (am_us μ 21 0) 0 := ⟨by decide, rfl, rfl, fun i hi => absurd hi (Nat.not_lt_zero _), fun i hi => absurd hi (Nat.not_lt_zero _)⟩
theorem rl_six {s q : Nat} (hs : s < 6) (hq : q < 6) (h : nI s = nI q) : s = q := (nI_eq (by omega) (by omega)).mp h
theorem op_line_0 (h : rl_ σ sr ln Lc μ O T) (t k : Nat) (ht : t < 3) (hk : k < 4) (hL : Lc < 40) (hs : pu_sort (σ 7) T = 0) (hR : (pr_R (μ 20) T).1 = 0) (hT0 : T = 3) (p0 : pr_lt (σ 7 0)) (p1 : pr_lt (σ 7 2)) : op_I xs LL 94 162 [.int (nI t), .int (nI k)] σ sr ln Lc μ := by
  have h' := h
  obtain ⟨hWF, hRK, hRL, hRO, hT, hM, hS, h10, h20⟩ := h'
  have hT' := hT
  obtain ⟨t20, t1, t2, t3, t4⟩ := hT'
  have hby : ∀ i, i < T → ¬ μ 20 i = -1 := by
    intro i hi
    rw [t3 i hi]
    obtain ⟨c, hc, e⟩ := t4 i hi
    rw [e]
    exact nI_m1 (by omega)
  have hb : ∀ i, i < T → am_hereF (μ 20) i T = σ 7 i := fun i hi => (pr_here_lt hi).trans (t3 i hi)
  have hcls := sp_X11_line_ok0 (xs := xs) (LL := LL) (σ := σ) (μ := μ) (sr := sr) (ln := ln) 4 t1 t20 hs hT0.symm t k ht hk hL
  obtain ⟨μ2, hr, hp1, hp2, hp3⟩ := sp_X12_read xs LL (am_us (am_us (am_us σ 8 0) 10 0) 20 0) (pu_srn sr Lc 0) (am_up ln Lc (pu_row [((σ 7 0) - 97), ((σ 7 2) - 97), (-1), nI t, nI k, -1, 1])) (Lc + 1) Lc hL t2 t20 hby
  have g : rl_fr Lc μ μ2 := ⟨hp1, hp2⟩
  have hRK2 : am_RK σ μ2 := rl_RKp g hRK
  have hRL2 : am_RL sr ln Lc μ2 := rl_RLp g hRL
  have hRO2 : am_RO σ sr ln Lc O μ2 := rl_ROp g hRO
  have hM2 : rl_mach σ μ2 := rl_machp g hM
  have hS2 : rl_shs σ μ2 := rl_shsp g hS
  have hT2 : rl_tape σ μ2 T := rl_tapep g hT
  rcases hp3 with ⟨e, -, -⟩ | ⟨s', hs', e1, e2, e7, e8, e9, e10, e11⟩
  · rw [hR] at e; exact absurd e (by decide)
  · have es : s' = 0 := rl_six hs' (by decide) (e1.symm.trans hR)
    subst es
    have n8 : μ2 8 Lc = ((σ 7 0) - 97) := by rw [e8, hb 0 (by omega)]
    have n9 : μ2 9 Lc = ((σ 7 2) - 97) := by
      rw [e9]
      show am_hereF (μ 20) 2 T - 97 = _
      rw [hb 2 (by omega)]
    have n10 : μ2 10 Lc = (-1) := by
      rw [e10]
      show (-1 : Int32) = -1
      rfl
    have n11 : μ2 11 Lc = -1 := by
      rw [e11]
      show (-1 : Int32) = -1
      rfl
    have hw : am_wl 0 (pu_row [((σ 7 0) - 97), ((σ 7 2) - 97), (-1), nI t, nI k, -1, 1]) := ⟨p0, Or.inr p1, fun _ => p1, fun q => absurd q (by decide), fun q _ => absurd q (by decide), fun q => absurd q (by decide), fun _ => rfl, fun q => absurd q (by decide), fun q => absurd q (by decide), Or.inr rfl, ⟨t, ht, rfl⟩, ⟨k, hk, rfl⟩, Or.inl rfl⟩
    have hlin := sp_X12_line_ok 6 t k ht hk hr hRL.1 hL e2 (by rw [hp1 17 (by decide) (by decide) (by decide)]; exact hRL.1) (s := 0) (by decide) e7 (by decide)
    rw [rl_m1] at hlin
    refine ⟨_, _, _, _, _, _, O, 0, hcls, hlin, ?_, ?_, ?_, ?_, ⟨by decide, rfl, rfl, fun i hi => absurd hi (Nat.not_lt_zero _), fun i hi => absurd hi (Nat.not_lt_zero _)⟩, hM2, hS2, Or.inl rfl, Or.inl rfl⟩
    · exact rl_WFn hWF hL (by decide) hw rfl rfl rfl hWF.2.2.2.1
    · exact hRK2
    · refine rl_RLn (t := nI t) (k := nI k) (ob := -1) hRL g e7 n8 n9 n10 n11 rfl rfl rfl rfl rfl rfl rfl rfl rfl rfl rfl rfl rfl rfl (fun i => ?_) rfl
      show upd (μ2 16) Lc (-1) i = _
      by_cases e : i = Lc
      · rw [e, pu_upl, if_pos rfl]
      · rw [pu_upn e, if_neg e]
    · exact rl_ROn hRO (by decide) rfl rfl (hp1 18 (by decide) (by decide) (by decide)) (by show μ2 19 0 = _; rw [hp1 19 (by decide) (by decide) (by decide)])
theorem op_line_1 (h : rl_ σ sr ln Lc μ O T) (t k : Nat) (ht : t < 3) (hk : k < 4) (hL : Lc < 40) (hs : pu_sort (σ 7) T = 1) (hR : (pr_R (μ 20) T).1 = 1) (hT1 : T = 5) (p0 : pr_lt (σ 7 0)) (p1 : pr_lt (σ 7 2)) (p2 : pr_n8 (σ 7 4)) : op_I xs LL 94 162 [.int (nI t), .int (nI k)] σ sr ln Lc μ := by
  have h' := h
  obtain ⟨hWF, hRK, hRL, hRO, hT, hM, hS, h10, h20⟩ := h'
  have hT' := hT
  obtain ⟨t20, t1, t2, t3, t4⟩ := hT'
  have hby : ∀ i, i < T → ¬ μ 20 i = -1 := by
    intro i hi
    rw [t3 i hi]
    obtain ⟨c, hc, e⟩ := t4 i hi
    rw [e]
    exact nI_m1 (by omega)
  have hb : ∀ i, i < T → am_hereF (μ 20) i T = σ 7 i := fun i hi => (pr_here_lt hi).trans (t3 i hi)
  have hcls := sp_X11_line_ok1 (xs := xs) (LL := LL) (σ := σ) (μ := μ) (sr := sr) (ln := ln) 4 t1 t20 hs hT1.symm t k ht hk hL
  obtain ⟨μ2, hr, hp1, hp2, hp3⟩ := sp_X12_read xs LL (am_us (am_us (am_us σ 8 0) 10 0) 20 0) (pu_srn sr Lc 1) (am_up ln Lc (pu_row [((σ 7 0) - 97), ((σ 7 2) - 97), ((σ 7 4) - 48), nI t, nI k, -1, 1])) (Lc + 1) Lc hL t2 t20 hby
  have g : rl_fr Lc μ μ2 := ⟨hp1, hp2⟩
  have hRK2 : am_RK σ μ2 := rl_RKp g hRK
  have hRL2 : am_RL sr ln Lc μ2 := rl_RLp g hRL
  have hRO2 : am_RO σ sr ln Lc O μ2 := rl_ROp g hRO
  have hM2 : rl_mach σ μ2 := rl_machp g hM
  have hS2 : rl_shs σ μ2 := rl_shsp g hS
  have hT2 : rl_tape σ μ2 T := rl_tapep g hT
  rcases hp3 with ⟨e, -, -⟩ | ⟨s', hs', e1, e2, e7, e8, e9, e10, e11⟩
  · rw [hR] at e; exact absurd e (by decide)
  · have es : s' = 1 := rl_six hs' (by decide) (e1.symm.trans hR)
    subst es
    have n8 : μ2 8 Lc = ((σ 7 0) - 97) := by rw [e8, hb 0 (by omega)]
    have n9 : μ2 9 Lc = ((σ 7 2) - 97) := by
      rw [e9]
      show am_hereF (μ 20) 2 T - 97 = _
      rw [hb 2 (by omega)]
    have n10 : μ2 10 Lc = ((σ 7 4) - 48) := by
      rw [e10]
      show am_hereF (μ 20) 4 T - 48 = _
      rw [hb 4 (by omega)]
    have n11 : μ2 11 Lc = -1 := by
      rw [e11]
      show (-1 : Int32) = -1
      rfl
    have hw : am_wl 1 (pu_row [((σ 7 0) - 97), ((σ 7 2) - 97), ((σ 7 4) - 48), nI t, nI k, -1, 1]) := ⟨p0, Or.inr p1, fun _ => p1, fun q => absurd q (by decide), fun q _ => absurd q (by decide), fun _ => p2, fun q => absurd q (by decide), fun q => absurd q (by decide), fun q => absurd q (by decide), Or.inr rfl, ⟨t, ht, rfl⟩, ⟨k, hk, rfl⟩, Or.inl rfl⟩
    have hlin := sp_X12_line_ok 6 t k ht hk hr hRL.1 hL e2 (by rw [hp1 17 (by decide) (by decide) (by decide)]; exact hRL.1) (s := 1) (by decide) e7 (by decide)
    rw [rl_m1] at hlin
    refine ⟨_, _, _, _, _, _, O, 0, hcls, hlin, ?_, ?_, ?_, ?_, ⟨by decide, rfl, rfl, fun i hi => absurd hi (Nat.not_lt_zero _), fun i hi => absurd hi (Nat.not_lt_zero _)⟩, hM2, hS2, Or.inl rfl, Or.inl rfl⟩
    · exact rl_WFn hWF hL (by decide) hw rfl rfl rfl hWF.2.2.2.1
    · exact hRK2
    · refine rl_RLn (t := nI t) (k := nI k) (ob := -1) hRL g e7 n8 n9 n10 n11 rfl rfl rfl rfl rfl rfl rfl rfl rfl rfl rfl rfl rfl rfl (fun i => ?_) rfl
      show upd (μ2 16) Lc (-1) i = _
      by_cases e : i = Lc
      · rw [e, pu_upl, if_pos rfl]
      · rw [pu_upn e, if_neg e]
    · exact rl_ROn hRO (by decide) rfl rfl (hp1 18 (by decide) (by decide) (by decide)) (by show μ2 19 0 = _; rw [hp1 19 (by decide) (by decide) (by decide)])
theorem op_line_2 (h : rl_ σ sr ln Lc μ O T) (t k : Nat) (ht : t < 3) (hk : k < 4) (hL : Lc < 40) (hs : pu_sort (σ 7) T = 2) (hR : (pr_R (μ 20) T).1 = 2) (hT2 : T = 5) (p0 : pr_lt (σ 7 0)) (p1 : pr_lt (σ 7 2)) (p2 : pr_n3 (σ 7 4)) : op_I xs LL 94 162 [.int (nI t), .int (nI k)] σ sr ln Lc μ := by
  have h' := h
  obtain ⟨hWF, hRK, hRL, hRO, hT, hM, hS, h10, h20⟩ := h'
  have hT' := hT
  obtain ⟨t20, t1, t2, t3, t4⟩ := hT'
  have hby : ∀ i, i < T → ¬ μ 20 i = -1 := by
    intro i hi
    rw [t3 i hi]
    obtain ⟨c, hc, e⟩ := t4 i hi
    rw [e]
    exact nI_m1 (by omega)
  have hb : ∀ i, i < T → am_hereF (μ 20) i T = σ 7 i := fun i hi => (pr_here_lt hi).trans (t3 i hi)
  have hcls := sp_X11_line_ok2 (xs := xs) (LL := LL) (σ := σ) (μ := μ) (sr := sr) (ln := ln) 4 t1 t20 hs hT2.symm t k ht hk hL
  obtain ⟨μ2, hr, hp1, hp2, hp3⟩ := sp_X12_read xs LL (am_us (am_us (am_us σ 8 0) 10 0) 20 0) (pu_srn sr Lc 2) (am_up ln Lc (pu_row [((σ 7 0) - 97), ((σ 7 2) - 97), ((σ 7 4) - 48), nI t, nI k, -1, 1])) (Lc + 1) Lc hL t2 t20 hby
  have g : rl_fr Lc μ μ2 := ⟨hp1, hp2⟩
  have hRK2 : am_RK σ μ2 := rl_RKp g hRK
  have hRL2 : am_RL sr ln Lc μ2 := rl_RLp g hRL
  have hRO2 : am_RO σ sr ln Lc O μ2 := rl_ROp g hRO
  have hM2 : rl_mach σ μ2 := rl_machp g hM
  have hS2 : rl_shs σ μ2 := rl_shsp g hS
  have hT2 : rl_tape σ μ2 T := rl_tapep g hT
  rcases hp3 with ⟨e, -, -⟩ | ⟨s', hs', e1, e2, e7, e8, e9, e10, e11⟩
  · rw [hR] at e; exact absurd e (by decide)
  · have es : s' = 2 := rl_six hs' (by decide) (e1.symm.trans hR)
    subst es
    have n8 : μ2 8 Lc = ((σ 7 0) - 97) := by rw [e8, hb 0 (by omega)]
    have n9 : μ2 9 Lc = ((σ 7 2) - 97) := by
      rw [e9]
      show am_hereF (μ 20) 2 T - 97 = _
      rw [hb 2 (by omega)]
    have n10 : μ2 10 Lc = ((σ 7 4) - 48) := by
      rw [e10]
      show am_hereF (μ 20) 4 T - 48 = _
      rw [hb 4 (by omega)]
    have n11 : μ2 11 Lc = -1 := by
      rw [e11]
      show (-1 : Int32) = -1
      rfl
    have hw : am_wl 2 (pu_row [((σ 7 0) - 97), ((σ 7 2) - 97), ((σ 7 4) - 48), nI t, nI k, -1, 1]) := ⟨p0, Or.inr p1, fun _ => p1, fun q => absurd q (by decide), fun _ _ => p2, fun q => absurd q (by decide), fun q => absurd q (by decide), fun q => absurd q (by decide), fun q => absurd q (by decide), Or.inr rfl, ⟨t, ht, rfl⟩, ⟨k, hk, rfl⟩, Or.inl rfl⟩
    have hlin := sp_X12_line_ok 6 t k ht hk hr hRL.1 hL e2 (by rw [hp1 17 (by decide) (by decide) (by decide)]; exact hRL.1) (s := 2) (by decide) e7 (by decide)
    rw [rl_m1] at hlin
    refine ⟨_, _, _, _, _, _, O, 0, hcls, hlin, ?_, ?_, ?_, ?_, ⟨by decide, rfl, rfl, fun i hi => absurd hi (Nat.not_lt_zero _), fun i hi => absurd hi (Nat.not_lt_zero _)⟩, hM2, hS2, Or.inl rfl, Or.inl rfl⟩
    · exact rl_WFn hWF hL (by decide) hw rfl rfl rfl hWF.2.2.2.1
    · exact hRK2
    · refine rl_RLn (t := nI t) (k := nI k) (ob := -1) hRL g e7 n8 n9 n10 n11 rfl rfl rfl rfl rfl rfl rfl rfl rfl rfl rfl rfl rfl rfl (fun i => ?_) rfl
      show upd (μ2 16) Lc (-1) i = _
      by_cases e : i = Lc
      · rw [e, pu_upl, if_pos rfl]
      · rw [pu_upn e, if_neg e]
    · exact rl_ROn hRO (by decide) rfl rfl (hp1 18 (by decide) (by decide) (by decide)) (by show μ2 19 0 = _; rw [hp1 19 (by decide) (by decide) (by decide)])
theorem op_line_3 (h : rl_ σ sr ln Lc μ O T) (t k : Nat) (ht : t < 3) (hk : k < 4) (hL : Lc < 40) (hs : pu_sort (σ 7) T = 3) (hR : (pr_R (μ 20) T).1 = 3) (hT3 : T = 5) (p0 : pr_lt (σ 7 0)) (p1 : pr_n3 (σ 7 2)) (p2 : pr_lt (σ 7 4)) : op_I xs LL 94 162 [.int (nI t), .int (nI k)] σ sr ln Lc μ := by
  have h' := h
  obtain ⟨hWF, hRK, hRL, hRO, hT, hM, hS, h10, h20⟩ := h'
  have hT' := hT
  obtain ⟨t20, t1, t2, t3, t4⟩ := hT'
  have hby : ∀ i, i < T → ¬ μ 20 i = -1 := by
    intro i hi
    rw [t3 i hi]
    obtain ⟨c, hc, e⟩ := t4 i hi
    rw [e]
    exact nI_m1 (by omega)
  have hb : ∀ i, i < T → am_hereF (μ 20) i T = σ 7 i := fun i hi => (pr_here_lt hi).trans (t3 i hi)
  have hcls := sp_X11_line_ok3 (xs := xs) (LL := LL) (σ := σ) (μ := μ) (sr := sr) (ln := ln) 4 t1 t20 hs hT3.symm t k ht hk hL
  obtain ⟨μ2, hr, hp1, hp2, hp3⟩ := sp_X12_read xs LL (am_us (am_us (am_us σ 8 0) 10 0) 20 0) (pu_srn sr Lc 3) (am_up ln Lc (pu_row [((σ 7 0) - 97), ((σ 7 4) - 97), ((σ 7 2) - 48), nI t, nI k, -1, 1])) (Lc + 1) Lc hL t2 t20 hby
  have g : rl_fr Lc μ μ2 := ⟨hp1, hp2⟩
  have hRK2 : am_RK σ μ2 := rl_RKp g hRK
  have hRL2 : am_RL sr ln Lc μ2 := rl_RLp g hRL
  have hRO2 : am_RO σ sr ln Lc O μ2 := rl_ROp g hRO
  have hM2 : rl_mach σ μ2 := rl_machp g hM
  have hS2 : rl_shs σ μ2 := rl_shsp g hS
  have hT2 : rl_tape σ μ2 T := rl_tapep g hT
  rcases hp3 with ⟨e, -, -⟩ | ⟨s', hs', e1, e2, e7, e8, e9, e10, e11⟩
  · rw [hR] at e; exact absurd e (by decide)
  · have es : s' = 3 := rl_six hs' (by decide) (e1.symm.trans hR)
    subst es
    have n8 : μ2 8 Lc = ((σ 7 0) - 97) := by rw [e8, hb 0 (by omega)]
    have n9 : μ2 9 Lc = ((σ 7 4) - 97) := by
      rw [e9]
      show am_hereF (μ 20) 4 T - 97 = _
      rw [hb 4 (by omega)]
    have n10 : μ2 10 Lc = ((σ 7 2) - 48) := by
      rw [e10]
      show am_hereF (μ 20) 2 T - 48 = _
      rw [hb 2 (by omega)]
    have n11 : μ2 11 Lc = -1 := by
      rw [e11]
      show (-1 : Int32) = -1
      rfl
    have hw : am_wl 3 (pu_row [((σ 7 0) - 97), ((σ 7 4) - 97), ((σ 7 2) - 48), nI t, nI k, -1, 1]) := ⟨p0, Or.inr p2, fun _ => p2, fun q => absurd q (by decide), fun _ _ => p1, fun q => absurd q (by decide), fun q => absurd q (by decide), fun q => absurd q (by decide), fun q => absurd q (by decide), Or.inr rfl, ⟨t, ht, rfl⟩, ⟨k, hk, rfl⟩, Or.inl rfl⟩
    have hlin := sp_X12_line_ok 6 t k ht hk hr hRL.1 hL e2 (by rw [hp1 17 (by decide) (by decide) (by decide)]; exact hRL.1) (s := 3) (by decide) e7 (by decide)
    rw [rl_m1] at hlin
    refine ⟨_, _, _, _, _, _, O, 0, hcls, hlin, ?_, ?_, ?_, ?_, ⟨by decide, rfl, rfl, fun i hi => absurd hi (Nat.not_lt_zero _), fun i hi => absurd hi (Nat.not_lt_zero _)⟩, hM2, hS2, Or.inl rfl, Or.inl rfl⟩
    · exact rl_WFn hWF hL (by decide) hw rfl rfl rfl hWF.2.2.2.1
    · exact hRK2
    · refine rl_RLn (t := nI t) (k := nI k) (ob := -1) hRL g e7 n8 n9 n10 n11 rfl rfl rfl rfl rfl rfl rfl rfl rfl rfl rfl rfl rfl rfl (fun i => ?_) rfl
      show upd (μ2 16) Lc (-1) i = _
      by_cases e : i = Lc
      · rw [e, pu_upl, if_pos rfl]
      · rw [pu_upn e, if_neg e]
    · exact rl_ROn hRO (by decide) rfl rfl (hp1 18 (by decide) (by decide) (by decide)) (by show μ2 19 0 = _; rw [hp1 19 (by decide) (by decide) (by decide)])
theorem op_line_4 (h : rl_ σ sr ln Lc μ O T) (t k : Nat) (ht : t < 3) (hk : k < 4) (hL : Lc < 40) (hs : pu_sort (σ 7) T = 4) (hR : (pr_R (μ 20) T).1 = 4) (hT4 : T = 8) (p0 : pr_lt (σ 7 0)) (p1 : pr_lt (σ 7 2)) (p2 : pr_n3 (σ 7 4)) (p3 : pr_lt (σ 7 6)) : op_I xs LL 94 162 [.int (nI t), .int (nI k)] σ sr ln Lc μ := by
  have h' := h
  obtain ⟨hWF, hRK, hRL, hRO, hT, hM, hS, h10, h20⟩ := h'
  have hT' := hT
  obtain ⟨t20, t1, t2, t3, t4⟩ := hT'
  have hby : ∀ i, i < T → ¬ μ 20 i = -1 := by
    intro i hi
    rw [t3 i hi]
    obtain ⟨c, hc, e⟩ := t4 i hi
    rw [e]
    exact nI_m1 (by omega)
  have hb : ∀ i, i < T → am_hereF (μ 20) i T = σ 7 i := fun i hi => (pr_here_lt hi).trans (t3 i hi)
  have hcls := sp_X11_line_ok4 (xs := xs) (LL := LL) (σ := σ) (μ := μ) (sr := sr) (ln := ln) 4 t1 t20 hs hT4.symm t k ht hk hL
  obtain ⟨μ2, hr, hp1, hp2, hp3⟩ := sp_X12_read xs LL (am_us (am_us (am_us σ 8 0) 10 0) 20 0) (pu_srn sr Lc 4) (am_up ln Lc (pu_row [((σ 7 0) - 97), ((σ 7 2) - 97), ((σ 7 4) - 48), nI t, nI k, -1, 1, ((σ 7 6) - 97)])) (Lc + 1) Lc hL t2 t20 hby
  have g : rl_fr Lc μ μ2 := ⟨hp1, hp2⟩
  have hRK2 : am_RK σ μ2 := rl_RKp g hRK
  have hRL2 : am_RL sr ln Lc μ2 := rl_RLp g hRL
  have hRO2 : am_RO σ sr ln Lc O μ2 := rl_ROp g hRO
  have hM2 : rl_mach σ μ2 := rl_machp g hM
  have hS2 : rl_shs σ μ2 := rl_shsp g hS
  have hT2 : rl_tape σ μ2 T := rl_tapep g hT
  rcases hp3 with ⟨e, -, -⟩ | ⟨s', hs', e1, e2, e7, e8, e9, e10, e11⟩
  · rw [hR] at e; exact absurd e (by decide)
  · have es : s' = 4 := rl_six hs' (by decide) (e1.symm.trans hR)
    subst es
    have n8 : μ2 8 Lc = ((σ 7 0) - 97) := by rw [e8, hb 0 (by omega)]
    have n9 : μ2 9 Lc = ((σ 7 2) - 97) := by
      rw [e9]
      show am_hereF (μ 20) 2 T - 97 = _
      rw [hb 2 (by omega)]
    have n10 : μ2 10 Lc = ((σ 7 4) - 48) := by
      rw [e10]
      show am_hereF (μ 20) 4 T - 48 = _
      rw [hb 4 (by omega)]
    have n11 : μ2 11 Lc = ((σ 7 6) - 97) := by
      rw [e11]
      show am_hereF (μ 20) 6 T - 97 = _
      rw [hb 6 (by omega)]
    have hw : am_wl 4 (pu_row [((σ 7 0) - 97), ((σ 7 2) - 97), ((σ 7 4) - 48), nI t, nI k, -1, 1, ((σ 7 6) - 97)]) := ⟨p0, Or.inr p1, fun _ => p1, fun q => absurd q (by decide), fun _ _ => p2, fun q => absurd q (by decide), fun q => absurd q (by decide), fun _ => p3, fun q => absurd q (by decide), Or.inr rfl, ⟨t, ht, rfl⟩, ⟨k, hk, rfl⟩, Or.inl rfl⟩
    have hlin := sp_X12_line_ok 6 t k ht hk hr hRL.1 hL e2 (by rw [hp1 17 (by decide) (by decide) (by decide)]; exact hRL.1) (s := 4) (by decide) e7 (by decide)
    rw [rl_m1] at hlin
    refine ⟨_, _, _, _, _, _, O, 0, hcls, hlin, ?_, ?_, ?_, ?_, ⟨by decide, rfl, rfl, fun i hi => absurd hi (Nat.not_lt_zero _), fun i hi => absurd hi (Nat.not_lt_zero _)⟩, hM2, hS2, Or.inl rfl, Or.inl rfl⟩
    · exact rl_WFn hWF hL (by decide) hw rfl rfl rfl hWF.2.2.2.1
    · exact hRK2
    · refine rl_RLn (t := nI t) (k := nI k) (ob := -1) hRL g e7 n8 n9 n10 n11 rfl rfl rfl rfl rfl rfl rfl rfl rfl rfl rfl rfl rfl rfl (fun i => ?_) rfl
      show upd (μ2 16) Lc (-1) i = _
      by_cases e : i = Lc
      · rw [e, pu_upl, if_pos rfl]
      · rw [pu_upn e, if_neg e]
    · exact rl_ROn hRO (by decide) rfl rfl (hp1 18 (by decide) (by decide) (by decide)) (by show μ2 19 0 = _; rw [hp1 19 (by decide) (by decide) (by decide)])
theorem op_line_5 (h : rl_ σ sr ln Lc μ O T) (t k : Nat) (ht : t < 3) (hk : k < 4) (hL : Lc < 40) (hs : pu_sort (σ 7) T = 5) (hR : (pr_R (μ 20) T).1 = 5) (hT5 : T = 4) (p0 : pr_lt (σ 7 0)) (p1 : pr_n8 (σ 7 3)) (hO : O < 16) : op_I xs LL 94 162 [.int (nI t), .int (nI k)] σ sr ln Lc μ := by
  have h' := h
  obtain ⟨hWF, hRK, hRL, hRO, hT, hM, hS, h10, h20⟩ := h'
  have hT' := hT
  obtain ⟨t20, t1, t2, t3, t4⟩ := hT'
  have hby : ∀ i, i < T → ¬ μ 20 i = -1 := by
    intro i hi
    rw [t3 i hi]
    obtain ⟨c, hc, e⟩ := t4 i hi
    rw [e]
    exact nI_m1 (by omega)
  have hb : ∀ i, i < T → am_hereF (μ 20) i T = σ 7 i := fun i hi => (pr_here_lt hi).trans (t3 i hi)
  have hcls := sp_X11_line_ok5 (xs := xs) (LL := LL) (σ := σ) (μ := μ) (sr := sr) (ln := ln) 4 t1 t20 hs hT5.symm t k ht hk hL hRO.2.1 hO
  obtain ⟨μ2, hr, hp1, hp2, hp3⟩ := sp_X12_read xs LL (am_us (am_us (am_us (am_us (am_up σ 4 (upd (σ 4) O ((σ 7 3) - 48))) 6 (nI (O + 1))) 8 0) 10 0) 20 0) (pu_srn sr Lc 5) (am_up ln Lc (pu_row [((σ 7 0) - 97), (-1), ((σ 7 3) - 48), nI t, nI k, -1, 1, (nI O)])) (Lc + 1) Lc hL t2 t20 hby
  have g : rl_fr Lc μ μ2 := ⟨hp1, hp2⟩
  have hRK2 : am_RK σ μ2 := rl_RKp g hRK
  have hRL2 : am_RL sr ln Lc μ2 := rl_RLp g hRL
  have hRO2 : am_RO σ sr ln Lc O μ2 := rl_ROp g hRO
  have hM2 : rl_mach σ μ2 := rl_machp g hM
  have hS2 : rl_shs σ μ2 := rl_shsp g hS
  have hT2 : rl_tape σ μ2 T := rl_tapep g hT
  rcases hp3 with ⟨e, -, -⟩ | ⟨s', hs', e1, e2, e7, e8, e9, e10, e11⟩
  · rw [hR] at e; exact absurd e (by decide)
  · have es : s' = 5 := rl_six hs' (by decide) (e1.symm.trans hR)
    subst es
    have n8 : μ2 8 Lc = ((σ 7 0) - 97) := by rw [e8, hb 0 (by omega)]
    have n9 : μ2 9 Lc = (-1) := by
      rw [e9]
      show (-1 : Int32) = -1
      rfl
    have n10 : μ2 10 Lc = ((σ 7 3) - 48) := by
      rw [e10]
      show am_hereF (μ 20) 3 T - 48 = _
      rw [hb 3 (by omega)]
    have n11 : μ2 11 Lc = -1 := by
      rw [e11]
      show (-1 : Int32) = -1
      rfl
    have hw : am_wl 5 (pu_row [((σ 7 0) - 97), (-1), ((σ 7 3) - 48), nI t, nI k, -1, 1, (nI O)]) := ⟨p0, Or.inl rfl, fun q => absurd rfl q, fun _ => rfl, fun _ q => absurd q (by decide), fun _ => p1, fun q => absurd q (by decide), fun q => absurd q (by decide), fun _ => ⟨O, hO, rfl⟩, Or.inr rfl, ⟨t, ht, rfl⟩, ⟨k, hk, rfl⟩, Or.inl rfl⟩
    have hlin := sp_X12_line_make 6 t k ht hk hr hRL.1 hL e2 (by rw [hp1 17 (by decide) (by decide) (by decide)]; exact hRL.1) (s := 5) (by decide) e7 rfl (O := O) (by rw [hp1 19 (by decide) (by decide) (by decide)]; exact hRO.2.2.1) hO
    rw [rl_m1] at hlin
    refine ⟨_, _, _, _, _, _, O + 1, 0, hcls, hlin, ?_, ?_, ?_, ?_, ⟨by decide, rfl, rfl, fun i hi => absurd hi (Nat.not_lt_zero _), fun i hi => absurd hi (Nat.not_lt_zero _)⟩, hM2, hS2, Or.inl rfl, Or.inl rfl⟩
    · refine rl_WFn hWF hL (by decide) hw rfl rfl rfl (fun p hp => ?_)
      show am_pl 8 (upd (σ 4) O ((σ 7 3) - 48) p)
      by_cases e : p = O
      · rw [e, pu_upl]; exact Or.inr p1
      · rw [pu_upn e]; exact hWF.2.2.2.1 p hp
    · exact hRK2
    · refine rl_RLn (t := nI t) (k := nI k) (ob := nI O) hRL g e7 n8 n9 n10 n11 rfl rfl rfl rfl rfl rfl rfl rfl rfl rfl rfl rfl rfl rfl (fun i => ?_) rfl
      show upd (upd (μ2 16) Lc (-1)) Lc (nI O) i = _
      by_cases e : i = Lc
      · rw [e, pu_upl, if_pos rfl]
      · rw [pu_upn e, pu_upn e, if_neg e]
    · exact rl_ROm hRO hO rfl rfl rfl rfl (by show upd (μ2 18) O (nI Lc) = _; rw [hp1 18 (by decide) (by decide) (by decide)]) rfl
theorem op_line (h : rl_ σ sr ln Lc μ O T) (t k : Int32) : op_I xs LL 94 162 [.int t, .int k] σ sr ln Lc μ := by
  have h' := h
  obtain ⟨hWF, hRK, hRL, hRO, hT, hM, hS, h10, h20⟩ := h'
  have hT' := hT
  obtain ⟨t20, t1, t2, t3, t4⟩ := hT'
  cases hb0 : (am_in t 3 && am_in k 4) with
  | false => exact op_same h (-2) (sp_X11_line_bad 9 t k hb0) (sp_X12_line_bad 8 t k hb0)
  | true =>
  obtain ⟨ht0, hk0⟩ := (Bool.and_eq_true _ _).mp hb0
  obtain ⟨t, ht, rfl⟩ := am_in_nI ht0
  obtain ⟨k, hk, rfl⟩ := am_in_nI hk0
  have hL40 := hWF.2.2.2.2.2.2
  by_cases hL : Lc < 40
  · have hby : ∀ i, i < T → ¬ μ 20 i = -1 := by
      intro i hi
      rw [t3 i hi]
      obtain ⟨c, hc, e⟩ := t4 i hi
      rw [e]
      exact nI_m1 (by omega)
    have hRR : pr_R (μ 20) T = pr_R (σ 7) T := by
      apply pr_R_congr
      intro i
      by_cases hi : i < T
      · rw [pr_here_lt hi, pr_here_lt hi, t3 i hi]
      · rw [pr_here_ge hi, pr_here_ge hi]
    obtain ⟨hS0, hD⟩ := pr_parse (f := σ 7) t20 t4
    rcases hD with ⟨d1, d2, d3⟩ | ⟨d1, d2, p0, p1⟩ | ⟨d1, d2, p0, p1, p2⟩ | ⟨d1, d2, p0, p1, p2⟩ | ⟨d1, d2, p0, p1, p2⟩ | ⟨d1, d2, p0, p1, p2, p3⟩ | ⟨d1, d2, p0, p1⟩
    · have hcls := sp_X11_line_flt (xs := xs) (LL := LL) (σ := σ) (μ := μ) (sr := sr) (ln := ln) 4 t1 t20 (hS0.symm.trans d1) t k ht hk hL
      obtain ⟨μ2, hr, hp1, hp2, hp3⟩ := sp_X12_read xs LL (am_us σ 8 0) sr ln Lc Lc hL t2 t20 hby
      have g : rl_fr Lc μ μ2 := ⟨hp1, hp2⟩
      have hRK2 : am_RK σ μ2 := rl_RKp g hRK
      have hRL2 : am_RL sr ln Lc μ2 := rl_RLp g hRL
      have hRO2 : am_RO σ sr ln Lc O μ2 := rl_ROp g hRO
      have hM2 : rl_mach σ μ2 := rl_machp g hM
      have hS2 : rl_shs σ μ2 := rl_shsp g hS
      have hT2 : rl_tape σ μ2 T := rl_tapep g hT
      rcases hp3 with ⟨-, e23, e22⟩ | ⟨s', hs', e1, -⟩
      · have hlin := sp_X12_line_flt 6 t k ht hk hr hRL.1 hL e23 e22
        rw [hRR, d2] at hlin
        exact ⟨_, _, _, _, _, _, O, 0, hcls, hlin, hWF, hRK2, hRL2, hRO2, ⟨by decide, rfl, rfl, fun i hi => absurd hi (Nat.not_lt_zero _), fun i hi => absurd hi (Nat.not_lt_zero _)⟩, hM2, hS2, rl_set_fr (σ := σ) rfl rfl rfl rfl rfl rfl rfl rfl rfl h10, rl_set_fr (σ := σ) rfl rfl rfl rfl rfl rfl rfl rfl rfl h20⟩
      · rw [hRR, d1] at e1
        exact absurd e1.symm (nI_m1 (by omega))
    · exact op_line_0 h t k ht hk hL (hS0.symm.trans d1) (by rw [hRR]; exact d1) d2 p0 p1
    · exact op_line_1 h t k ht hk hL (hS0.symm.trans d1) (by rw [hRR]; exact d1) d2 p0 p1 p2
    · exact op_line_2 h t k ht hk hL (hS0.symm.trans d1) (by rw [hRR]; exact d1) d2 p0 p1 p2
    · exact op_line_3 h t k ht hk hL (hS0.symm.trans d1) (by rw [hRR]; exact d1) d2 p0 p1 p2
    · exact op_line_4 h t k ht hk hL (hS0.symm.trans d1) (by rw [hRR]; exact d1) d2 p0 p1 p2 p3
    · by_cases hO : O < 16
      · exact op_line_5 h t k ht hk hL (hS0.symm.trans d1) (by rw [hRR]; exact d1) d2 p0 p1 hO
      · have hO16 : O = 16 := by have := hRO.1; omega
        have hcls := sp_X11_line_room (xs := xs) (LL := LL) (σ := σ) (μ := μ) (sr := sr) (ln := ln) 4 t1 t20 (hS0.symm.trans d1) t k ht hk hL hRO.2.1 hO16
        obtain ⟨μ2, hr, hp1, hp2, hp3⟩ := sp_X12_read xs LL σ sr ln Lc Lc hL t2 t20 hby
        have g : rl_fr Lc μ μ2 := ⟨hp1, hp2⟩
        have hRK2 : am_RK σ μ2 := rl_RKp g hRK
        have hRL2 : am_RL sr ln Lc μ2 := rl_RLp g hRL
        have hRO2 : am_RO σ sr ln Lc O μ2 := rl_ROp g hRO
        have hM2 : rl_mach σ μ2 := rl_machp g hM
        have hS2 : rl_shs σ μ2 := rl_shsp g hS
        have hT2 : rl_tape σ μ2 T := rl_tapep g hT
        rcases hp3 with ⟨e, -, -⟩ | ⟨s', hs', e1, e2, e7, -⟩
        · rw [hRR, d1] at e; exact absurd e (by decide)
        · have es : s' = 5 := rl_six hs' (by decide) (e1.symm.trans ((by rw [hRR]; exact d1 : (pr_R (μ 20) T).1 = 5)))
          subst es
          have hlin := sp_X12_line_room 6 t k ht hk hr hRL.1 hL e2 (by rw [hp1 17 (by decide) (by decide) (by decide)]; exact hRL.1) (s := 5) (by decide) e7 rfl (O := O) (by rw [hp1 19 (by decide) (by decide) (by decide)]; exact hRO.2.2.1) hO16
          exact ⟨_, _, _, _, _, _, O, T, hcls, hlin, hWF, hRK2, hRL2, hRO2, hT2, hM2, hS2, h10, h20⟩
  · exact op_same h (-4) (sp_X11_line_full 9 t k ht hk (by omega)) (sp_X12_line_full 8 (nI t) (nI k) ht0 hk0 (by rw [hRL.1, show Lc = 40 by omega]; rfl))
end OLN
