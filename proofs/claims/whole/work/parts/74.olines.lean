/-! calls that look at lines, or change one field of a line -/
theorem pu_alw_f {kf ab ow ro f g W A : Nat → Int32} {bk : Bool} {s : Nat} (h0 : f 0 = g 0) (h1 : f 1 = g 1) (h2 : f 2 = g 2) (h7 : f 7 = g 7) : am_alw kf ab ow ro bk s f W A = am_alw kf ab ow ro bk s g W A := by
  have hcl : am_clS ro W f = am_clS ro W g := by
    funext x o B
    unfold am_clS
    rw [h0, h7]
  have hca : am_caS kf ab ow ro W f = am_caS kf ab ow ro W g := by
    funext m n o B
    unfold am_caS
    rw [hcl]
  unfold am_alw
  rw [h0, h1, h2, h7, hca]
theorem rl_upd_ne {ln : Nat → Nat → Int32} {q k j l : Nat} {v : Int32} (h : ¬ j = k) : am_up ln q (upd (ln q) k v) l j = ln l j := by
  by_cases e : l = q
  · subst e
    rw [am_up_eq, pu_upn h]
  · rw [am_up_ne e]
theorem rl_upd_eq {ln : Nat → Nat → Int32} {q k : Nat} {v : Int32} : am_up ln q (upd (ln q) k v) q k = v := by rw [am_up_eq, pu_upl]
section OL
variable {xs : Nat → Int32} {LL : Nat} {σ τ μ : Nat → Nat → Int32} {sr : Nat → Nat} {ln lm : Nat → Nat → Int32} {Lc O T : Nat}
/-- lines that the rounds can't tell apart -/
theorem pu_W_ln (h : ∀ i, i < Lc → lm i 0 = ln i 0 ∧ lm i 1 = ln i 1 ∧ lm i 2 = ln i 2 ∧ lm i 7 = ln i 7 ∧ lm i 6 = ln i 6) (bk : Bool) (wo : Int32) : pu_W σ sr lm Lc bk wo = pu_W σ sr ln Lc bk wo := by
  have hl : am_lnX σ sr lm Lc bk wo = am_lnX σ sr ln Lc bk wo := by
    funext W i A
    unfold am_lnX
    by_cases hi : i < Lc
    · obtain ⟨a0, a1, a2, a7, a6⟩ := h i hi
      rw [if_pos hi, if_pos hi, a6, pu_alw_f a0 a1 a2 a7]
    · rw [if_neg hi, if_neg hi]
  funext r
  induction r with
  | zero => rfl
  | succ r ih =>
    funext k
    rw [pu_WS, pu_WS, ih]
    unfold pu_R
    rw [hl]
theorem pu_SF_ln (h : ∀ i, i < Lc → lm i 0 = ln i 0 ∧ lm i 1 = ln i 1 ∧ lm i 2 = ln i 2 ∧ lm i 7 = ln i 7 ∧ lm i 6 = ln i 6) {bk : Bool} {wo : Int32} {N : Nat} {H F : Nat → Int32} (g : pu_SF σ sr ln Lc bk wo N H F) : pu_SF σ sr lm Lc bk wo N H F := by
  have hne : pu_ne σ sr lm Lc bk wo = pu_ne σ sr ln Lc bk wo := by
    unfold pu_ne
    rw [pu_W_ln h]
  obtain ⟨g1, g2, g3⟩ := g
  refine ⟨?_, ?_, ?_⟩
  · unfold pu_isN at g1 ⊢
    rw [hne]; exact g1
  · rw [pu_W_ln h]; exact g2
  · unfold pu_F at g3 ⊢
    rw [pu_W_ln h]; exact g3
theorem rl_set_ln (h : ∀ i, i < Lc → lm i 0 = ln i 0 ∧ lm i 1 = ln i 1 ∧ lm i 2 = ln i 2 ∧ lm i 7 = ln i 7 ∧ lm i 6 = ln i 6) {bk : Bool} {b : Nat} (g : rl_set σ sr ln Lc bk b) : rl_set σ sr lm Lc bk b := by
  rcases g with g | ⟨g1, N, g2, g3⟩
  · exact Or.inl g
  · exact Or.inr ⟨g1, N, pu_SF_ln h g2, g3⟩
theorem rl_WF6 {q : Nat} {v : Int32} (hv : v = 0 ∨ v = 1) (h : am_WF σ sr ln Lc) : am_WF σ sr (am_up ln q (upd (ln q) 6 v)) Lc := by
  obtain ⟨w1, w2, w3, w4, w5, w6, w7⟩ := h
  refine ⟨w1, w2, w3, w4, w5, fun i hi => ?_, w7⟩
  have hw := w6 i hi
  by_cases e : i = q
  · subst e
    rw [am_up_eq]
    obtain ⟨h0, h1, h2, h3, h4, h5, h6, h7, h8, -, h10⟩ := hw
    exact ⟨h0, h1, h2, h3, h4, h5, h6, h7, h8, hv, h10⟩
  · rw [am_up_ne e]; exact hw
theorem rl_WF5 {q : Nat} {v : Int32} (hv : am_pl 6 v) (h : am_WF σ sr ln Lc) : am_WF σ sr (am_up ln q (upd (ln q) 5 v)) Lc := by
  obtain ⟨w1, w2, w3, w4, w5, w6, w7⟩ := h
  refine ⟨w1, w2, w3, w4, w5, fun i hi => ?_, w7⟩
  have hw := w6 i hi
  by_cases e : i = q
  · subst e
    rw [am_up_eq]
    obtain ⟨h0, h1, h2, h3, h4, h5, h6, h7, h8, h9, h10, h11, -⟩ := hw
    exact ⟨h0, h1, h2, h3, h4, h5, h6, h7, h8, h9, h10, h11, hv⟩
  · rw [am_up_ne e]; exact hw
theorem rl_RL6 {q : Nat} {v : Int32} (h : am_RL sr ln Lc μ) : am_RL sr (am_up ln q (upd (ln q) 6 v)) Lc (am_up μ 14 (upd (μ 14) q v)) := by
  obtain ⟨h1, h2, h3, h4, h5, h6, h7, h8, h9, h10, h11⟩ := h
  refine ⟨h1, h2, ?_, ?_, ?_, ?_, ?_, ?_, ?_, ?_, ?_⟩ <;> intro i hi
  · show μ 8 i = _; rw [rl_upd_ne (by decide)]; exact h3 i hi
  · show μ 9 i = _; rw [rl_upd_ne (by decide)]; exact h4 i hi
  · show μ 10 i = _; rw [rl_upd_ne (by decide)]; exact h5 i hi
  · show μ 11 i = _; rw [rl_upd_ne (by decide)]; exact h6 i hi
  · show μ 12 i = _; rw [rl_upd_ne (by decide)]; exact h7 i hi
  · show μ 13 i = _; rw [rl_upd_ne (by decide)]; exact h8 i hi
  · show upd (μ 14) q v i = _
    by_cases e : i = q
    · subst e; rw [rl_upd_eq, pu_upl]
    · rw [am_up_ne e, pu_upn e]; exact h9 i hi
  · show μ 15 i = _; rw [rl_upd_ne (by decide)]; exact h10 i hi
  · show μ 16 i = _; rw [rl_upd_ne (by decide)]; exact h11 i hi
theorem rl_RL5 {q : Nat} {v : Int32} (h : am_RL sr ln Lc μ) : am_RL sr (am_up ln q (upd (ln q) 5 v)) Lc (am_up μ 15 (upd (μ 15) q v)) := by
  obtain ⟨h1, h2, h3, h4, h5, h6, h7, h8, h9, h10, h11⟩ := h
  refine ⟨h1, h2, ?_, ?_, ?_, ?_, ?_, ?_, ?_, ?_, ?_⟩ <;> intro i hi
  · show μ 8 i = _; rw [rl_upd_ne (by decide)]; exact h3 i hi
  · show μ 9 i = _; rw [rl_upd_ne (by decide)]; exact h4 i hi
  · show μ 10 i = _; rw [rl_upd_ne (by decide)]; exact h5 i hi
  · show μ 11 i = _; rw [rl_upd_ne (by decide)]; exact h6 i hi
  · show μ 12 i = _; rw [rl_upd_ne (by decide)]; exact h7 i hi
  · show μ 13 i = _; rw [rl_upd_ne (by decide)]; exact h8 i hi
  · show μ 14 i = _; rw [rl_upd_ne (by decide)]; exact h9 i hi
  · show upd (μ 15) q v i = _
    by_cases e : i = q
    · subst e; rw [rl_upd_eq, pu_upl]
    · rw [am_up_ne e, pu_upn e]; exact h10 i hi
  · show μ 16 i = _; rw [rl_upd_ne (by decide)]; exact h11 i hi
theorem rl_RO56 {q k : Nat} {v : Int32} (h7 : ¬ 7 = k) (h2 : ¬ 2 = k) (h : am_RO σ sr ln Lc O μ) : am_RO σ sr (am_up ln q (upd (ln q) k v)) Lc O μ := by
  obtain ⟨r1, r2, r3, r4, r5⟩ := h
  refine ⟨r1, r2, r3, fun o ho => ?_, fun l hl hs => ?_⟩
  · obtain ⟨l, a1, a2, a3, a4, a5⟩ := r4 o ho
    exact ⟨l, a1, a2, a3, by rw [rl_upd_ne h7]; exact a4, by rw [rl_upd_ne h2]; exact a5⟩
  · obtain ⟨o, a1, a2, a3⟩ := r5 l hl hs
    exact ⟨o, a1, by rw [rl_upd_ne h7]; exact a2, a3⟩
theorem rl_wl6 (h : rl_ σ sr ln Lc μ O T) {q : Nat} (hq : q < Lc) : ln q 6 = 0 ∨ ln q 6 = 1 := (h.1.2.2.2.2.2.1 q hq).2.2.2.2.2.2.2.2.2.1
theorem op_turn (h : rl_ σ sr ln Lc μ O T) (q v : Int32) : op_I xs LL 96 164 [.int q, .int v] σ sr ln Lc μ := by
  have h' := h
  obtain ⟨hWF, hRK, hRL, hRO, hT, hM, hS, h10, h20⟩ := h'
  have hL := hWF.2.2.2.2.2.2
  cases e1 : am_in q Lc with
  | false => exact op_same h (-2) (sp_X11_turn_bad1 9 q v e1 hL) (sp_X12_turn_bad 8 hRL.1 hL q v (by rw [e1]; rfl))
  | true =>
    cases e2 : am_in v 2 with
    | false =>
      obtain ⟨q, hq, rfl⟩ := am_in_nI e1
      exact op_same h (-2) (sp_X11_turn_bad2 9 q hq hL v e2) (sp_X12_turn_bad 8 hRL.1 hL (nI q) v (by rw [e2, Bool.and_false]))
    | true =>
      obtain ⟨q, hq, rfl⟩ := am_in_nI e1
      obtain ⟨v, hv, rfl⟩ := am_in_nI e2
      have hz := rl_wl6 h hq
      have e14 : μ 14 q = ln q 6 := hRL.2.2.2.2.2.2.2.2.1 q hq
      have hz2 : μ 14 q = 0 ∨ μ 14 q = 1 := by rw [e14]; exact hz
      match v, hv with
      | 0, _ =>
        have q2 := fun (τ : Nat → Nat → Int32) (lm : Nat → Nat → Int32) => sp_X12_turn_ok0 (xs := xs) (LL := LL) (σ := τ) (sr := sr) (ln := lm) (Lc := Lc) 8 hRL.1 hL q hq hz2
        rw [e14] at q2
        refine ⟨_, _, _, _, _, _, O, T, sp_X11_turn_0 9 q hq hL hWF.2.2.2.2.1 hz, q2 _ _, rl_WF6 (Or.inl rfl) hWF, hRK, rl_RL6 hRL, rl_RO56 (by decide) (by decide) hRO, hT, hM, hS, Or.inl rfl, Or.inl rfl⟩
      | 1, _ =>
        have q2 := fun (τ : Nat → Nat → Int32) (lm : Nat → Nat → Int32) => sp_X12_turn_ok1 (xs := xs) (LL := LL) (σ := τ) (sr := sr) (ln := lm) (Lc := Lc) 8 hRL.1 hL q hq hz2
        rw [e14] at q2
        refine ⟨_, _, _, _, _, _, O, T, sp_X11_turn_1 9 q hq hL hWF.2.2.2.2.1 hz, q2 _ _, rl_WF6 (Or.inr rfl) hWF, hRK, rl_RL6 hRL, rl_RO56 (by decide) (by decide) hRO, hT, hM, hS, Or.inl rfl, Or.inl rfl⟩
theorem op_in (h : rl_ σ sr ln Lc μ O T) (q v : Int32) : op_I xs LL 97 165 [.int q, .int v] σ sr ln Lc μ := by
  have h' := h
  obtain ⟨hWF, hRK, hRL, hRO, hT, hM, hS, h10, h20⟩ := h'
  have hL := hWF.2.2.2.2.2.2
  cases e1 : am_in q Lc with
  | false => exact op_same h (-5) (sp_X11_in_bad1 9 q v e1 hL) (sp_X12_in__bad 8 hRL.1 hL q v (by rw [e1]; rfl))
  | true =>
    obtain ⟨q, hq, rfl⟩ := am_in_nI e1
    cases e2 : am_in1 v 6 with
    | false => exact op_same h (-5) (sp_X11_in_bad2 9 q hq hL v e2) (sp_X12_in__bad 8 hRL.1 hL (nI q) v (by rw [e2, Bool.and_false]))
    | true =>
      have e15 : μ 15 q = ln q 5 := hRL.2.2.2.2.2.2.2.2.2.1 q hq
      have q2 := fun (lm : Nat → Nat → Int32) => sp_X12_in__ok (xs := xs) (LL := LL) (σ := σ) (sr := sr) (ln := lm) (Lc := Lc) 8 hRL.1 hL q v hq e2
      rw [e15] at q2
      have hn : ∀ i, i < Lc → am_up ln q (upd (ln q) 5 v) i 0 = ln i 0 ∧ am_up ln q (upd (ln q) 5 v) i 1 = ln i 1 ∧ am_up ln q (upd (ln q) 5 v) i 2 = ln i 2 ∧ am_up ln q (upd (ln q) 5 v) i 7 = ln i 7 ∧ am_up ln q (upd (ln q) 5 v) i 6 = ln i 6 := fun i _ => ⟨rl_upd_ne (by decide), rl_upd_ne (by decide), rl_upd_ne (by decide), rl_upd_ne (by decide), rl_upd_ne (by decide)⟩
      refine ⟨_, _, _, _, _, _, O, T, sp_X11_in_ok 9 q hq hL hWF.2.2.2.2.1 v e2, q2 _, rl_WF5 (rl_pl e2) hWF, hRK, rl_RL5 hRL, rl_RO56 (by decide) (by decide) hRO, hT, hM, hS, rl_set_ln hn h10, rl_set_ln hn h20⟩
theorem rl_sw {w : Int32} {n : Nat} (hn : n < 100) : (w.toInt < 0 ∨ (n : Int) < w.toInt) ∨ ∃ k, k < n + 1 ∧ w = nI k := by
  by_cases h : w.toInt < 0 ∨ (n : Int) < w.toInt
  · exact Or.inl h
  · exact Or.inr (am_in_nI (am_in_iff.mpr ⟨by omega, by omega⟩))
theorem op_lineTold (h : rl_ σ sr ln Lc μ O T) (q w : Int32) : op_I xs LL 95 163 [.int q, .int w] σ sr ln Lc μ := by
  have h' := h
  obtain ⟨hWF, hRK, hRL, hRO, hT, hM, hS, h10, h20⟩ := h'
  have hL := hWF.2.2.2.2.2.2
  have hsr := hWF.2.2.2.2.1
  cases e1 : am_in q Lc with
  | false => exact op_same h (-2) (sp_X11_lineTold_bad 9 q w e1 hL) (sp_X12_lineTold_bad 8 hRL.1 hL q w e1)
  | true =>
    obtain ⟨q, hq, rfl⟩ := am_in_nI e1
    obtain ⟨r1, r2, r3, r4, r5, r6, r7, r8, r9, r10, r11⟩ := hRL
    rcases rl_sw (w := w) (n := 10) (by decide) with hw | ⟨k, hk, rfl⟩
    · exact op_same h (-2) (sp_X11_lineTold_no 9 q hq hL w hw) (sp_X12_lineTold_no 8 r1 hL q hq w hw)
    · have hz := rl_wl6 h hq
      match k, hk with
      | 0, _ => exact op_same2 h (r2 q hq).symm (sp_X11_lineTold_0 7 q hq hL hsr) (sp_X12_lineTold_0 8 r1 hL q hq)
      | 1, _ => exact op_same2 h (r3 q hq).symm (sp_X11_lineTold_1 7 q hq hL hsr) (sp_X12_lineTold_1 8 r1 hL q hq)
      | 2, _ => exact op_same2 h (r4 q hq).symm (sp_X11_lineTold_2 7 q hq hL hsr) (sp_X12_lineTold_2 8 r1 hL q hq)
      | 3, _ => exact op_same2 h (r5 q hq).symm (sp_X11_lineTold_3 7 q hq hL hsr) (sp_X12_lineTold_3 8 r1 hL q hq)
      | 4, _ => exact op_same2 h (r6 q hq).symm (sp_X11_lineTold_4 7 q hq hL hsr) (sp_X12_lineTold_4 8 r1 hL q hq)
      | 5, _ => exact op_same2 h (r7 q hq).symm (sp_X11_lineTold_5 7 q hq hL hsr) (sp_X12_lineTold_5 8 r1 hL q hq)
      | 6, _ => exact op_same2 h (r8 q hq).symm (sp_X11_lineTold_6 7 q hq hL hsr) (sp_X12_lineTold_6 8 r1 hL q hq)
      | 7, _ => exact op_same2 h (r9 q hq).symm (sp_X11_lineTold_7 7 q hq hL hsr hz) (sp_X12_lineTold_7 8 r1 hL q hq (by rw [r9 q hq]; exact hz))
      | 8, _ => exact op_same2 h (r10 q hq).symm (sp_X11_lineTold_8 7 q hq hL hsr) (sp_X12_lineTold_8 8 r1 hL q hq)
      | 9, _ => exact op_same2 h (by rw [r2 q hq, nI_clamp (by have := hsr q hq; omega)]) (sp_X11_lineTold_9 7 q hq hL hsr) (sp_X12_lineTold_9 8 r1 hL q hq ⟨sr q, hsr q hq, r2 q hq⟩)
      | 10, _ => exact op_same2 h (r11 q hq).symm (sp_X11_lineTold_10 7 q hq hL hsr) (sp_X12_lineTold_10 8 r1 hL q hq)
theorem rl_on (h : rl_ σ sr ln Lc μ O T) : ∀ n, n ≤ Lc → am_it (pu_onS ln Lc) 0 n = am_sumF (μ 14) n := by
  intro n
  induction n with
  | zero => intro _; rfl
  | succ n ih =>
    intro hn
    rw [am_itS, ih (by omega)]
    show pu_onS ln Lc n _ = am_sumF (μ 14) n + μ 14 n
    rw [h.2.2.1.2.2.2.2.2.2.2.2.1 n (by omega)]
    unfold pu_onS
    rw [if_pos (by omega : n < Lc)]
    rcases rl_wl6 h (show n < Lc by omega) with e | e
    · rw [if_pos e, e, Int32.add_zero]
    · rw [if_neg (by rw [e]; decide), e]
theorem rl_wk (h : rl_ σ sr ln Lc μ O T) : ∀ n, n ≤ Lc → am_it (pu_wkS sr ln Lc) 0 n = am_sumF (am_wkF (μ 14) (μ 7)) n := by
  intro n
  induction n with
  | zero => intro _; rfl
  | succ n ih =>
    intro hn
    rw [am_itS, ih (by omega)]
    show pu_wkS sr ln Lc n _ = am_sumF (am_wkF (μ 14) (μ 7)) n + am_wkF (μ 14) (μ 7) n
    unfold pu_wkS am_wkF
    rw [if_pos (by omega : n < Lc), h.2.2.1.2.2.2.2.2.2.2.2.1 n (by omega), h.2.2.1.2.1 n (by omega), nI_clamp (by have := h.1.2.2.2.2.1 n (by omega); omega)]
    by_cases e : ln n 6 = 0
    · rw [if_pos e, if_pos e, Int32.add_zero]
    · rw [if_neg e, if_neg e]
theorem rl_on40 (h : rl_ σ sr ln Lc μ O T) : am_it (pu_onS ln Lc) 0 40 = am_sumF (μ 14) Lc := by
  have e := pu_it_stop (f := pu_onS ln Lc) (a := 0) (n := Lc) (fun i b hi => if_neg (by omega)) (40 - Lc)
  have hL := h.1.2.2.2.2.2.2
  rw [show Lc + (40 - Lc) = 40 by omega] at e
  rw [e, rl_on h Lc (Nat.le_refl _)]
theorem rl_wk40 (h : rl_ σ sr ln Lc μ O T) : am_it (pu_wkS sr ln Lc) 0 40 = am_sumF (am_wkF (μ 14) (μ 7)) Lc := by
  have e := pu_it_stop (f := pu_wkS sr ln Lc) (a := 0) (n := Lc) (fun i b hi => if_neg (by omega)) (40 - Lc)
  have hL := h.1.2.2.2.2.2.2
  rw [show Lc + (40 - Lc) = 40 by omega] at e
  rw [e, rl_wk h Lc (Nat.le_refl _)]
theorem op_count (h : rl_ σ sr ln Lc μ O T) (w : Int32) : op_I xs LL 116 201 [.int w] σ sr ln Lc μ := by
  have h' := h
  obtain ⟨hWF, hRK, hRL, hRO, hT, hM, hS, h10, h20⟩ := h'
  obtain ⟨e1, e2, e4, e5, e6, K, hK8, hK3, hK5⟩ := hRK
  have hL := hWF.2.2.2.2.2.2
  have hsr := hWF.2.2.2.2.1
  rcases rl_sw (w := w) (n := 5) (by decide) with hw | ⟨k, hk, rfl⟩
  · exact op_same h (-2) (sp_X11_count_no 10 w hw) (sp_X12_count_no 10 w hw)
  · match k, hk with
    | 0, _ => exact op_same2 h (hK5.trans hK3.symm) (sp_X11_count_0 6 hsr) (sp_X12_count_0 10)
    | 1, _ => exact op_same2 h hRL.1.symm (sp_X11_count_1 6 hsr) (sp_X12_count_1 10)
    | 2, _ => exact op_same2 h (rl_on40 h) (sp_X11_count_2 6 hsr) (sp_X12_count_2 10 hRL.1 hL (fun i hi => by rw [hRL.2.2.2.2.2.2.2.2.1 i hi]; exact rl_wl6 h hi))
    | 3, _ => exact op_same2 h (hRO.2.1.trans hRO.2.2.1.symm) (sp_X11_count_3 6 hsr) (sp_X12_count_3 10)
    | 4, _ => exact op_same2 h (hT.2.1.trans hT.2.2.1.symm) (sp_X11_count_4 6 hsr) (sp_X12_count_4 10)
    | 5, _ => exact op_same2 h (rl_wk40 h) (sp_X11_count_5 6 hsr) (sp_X12_count_5 8 hRL.1 hL (fun i hi => ⟨sr i, hsr i hi, hRL.2.1 i hi⟩))
theorem op_seen (h : rl_ σ sr ln Lc μ O T) (n : Int32) : op_I xs LL 114 199 [.int n] σ sr ln Lc μ := by
  cases e : am_in n 20 with
  | false => exact op_same h (-2) (sp_X11_seen_bad 8 n e) (sp_X12_seen_bad 8 n e)
  | true =>
    obtain ⟨n, hn, rfl⟩ := am_in_nI e
    exact op_same2 h (h.2.2.2.2.2.1 n hn).2.symm (sp_X11_seen_ok 8 n hn) (sp_X12_seen_ok 8 n hn)
theorem op_now (h : rl_ σ sr ln Lc μ O T) (n : Int32) : op_I xs LL 115 200 [.int n] σ sr ln Lc μ := by
  cases e : am_in n 20 with
  | false => exact op_same h (-2) (sp_X11_now_bad 8 n e) (sp_X12_now_bad 8 n e)
  | true =>
    obtain ⟨n, hn, rfl⟩ := am_in_nI e
    exact op_same2 h (h.2.2.2.2.2.1 n hn).1.symm (sp_X11_now_ok 8 n hn) (sp_X12_now_ok 8 n hn)
theorem op_taken (h : rl_ σ sr ln Lc μ O T) (q k : Int32) : op_I xs LL 121 208 [.int q, .int k] σ sr ln Lc μ := by
  have h' := h
  obtain ⟨hWF, hRK, hRL, hRO, hT, hM, hS, h10, h20⟩ := h'
  have hL := hWF.2.2.2.2.2.2
  have hsr := hWF.2.2.2.2.1
  cases ek : am_in k 6 with
  | false => exact op_same h (-2) (sp_X11_taken_bad 9 q k ek) (sp_X12_taken_bad 8 q k ek)
  | true =>
    cases eq : am_in q Lc with
    | false => exact op_same h (-11) (sp_X11_taken_no 9 q k ek eq hL) (sp_X12_taken_no 8 hRL.1 hL q k ek eq)
    | true =>
      obtain ⟨q, hq, rfl⟩ := am_in_nI eq
      obtain ⟨k, hk, rfl⟩ := am_in_nI ek
      have h8 := hRL.2.2.1 q hq
      have h7 := hRL.2.1 q hq
      have hs6 := hsr q hq
      generalize es : sr q = s at h7 hs6
      match k, hk with
      | 0, _ =>
        have q1 := sp_X11_taken_0 (xs := xs) (LL := LL) (σ := σ) (μ := μ) (ln := ln) 9 q hq hL hsr
        match s, hs6 with
        | 0, _ => exact op_same2 h (by first | exact h8.symm | rfl) q1 (sp_X12_taken_00 8 hRL.1 hL q hq h7)
        | 1, _ => exact op_same2 h (by first | exact h8.symm | rfl) q1 (sp_X12_taken_10 8 hRL.1 hL q hq h7)
        | 2, _ => exact op_same2 h (by first | exact h8.symm | rfl) q1 (sp_X12_taken_20 8 hRL.1 hL q hq h7)
        | 3, _ => exact op_same2 h (by first | exact h8.symm | rfl) q1 (sp_X12_taken_30 8 hRL.1 hL q hq h7)
        | 4, _ => exact op_same2 h (by first | exact h8.symm | rfl) q1 (sp_X12_taken_40 8 hRL.1 hL q hq h7)
        | 5, _ => exact op_same2 h (by first | exact h8.symm | rfl) q1 (sp_X12_taken_50 8 hRL.1 hL q hq h7)
      | 1, _ =>
        have q1 := sp_X11_taken_1 (xs := xs) (LL := LL) (σ := σ) (μ := μ) (ln := ln) 9 q hq hL hsr
        rw [es] at q1
        match s, hs6 with
        | 0, _ => exact op_same2 h (by first | exact h8.symm | rfl) q1 (sp_X12_taken_01 8 hRL.1 hL q hq h7)
        | 1, _ => exact op_same2 h (by first | exact h8.symm | rfl) q1 (sp_X12_taken_11 8 hRL.1 hL q hq h7)
        | 2, _ => exact op_same2 h (by first | exact h8.symm | rfl) q1 (sp_X12_taken_21 8 hRL.1 hL q hq h7)
        | 3, _ => exact op_same2 h (by first | exact h8.symm | rfl) q1 (sp_X12_taken_31 8 hRL.1 hL q hq h7)
        | 4, _ => exact op_same2 h (by first | exact h8.symm | rfl) q1 (sp_X12_taken_41 8 hRL.1 hL q hq h7)
        | 5, _ => exact op_same2 h (by first | exact h8.symm | rfl) q1 (sp_X12_taken_51 8 hRL.1 hL q hq h7)
      | 2, _ =>
        have q1 := sp_X11_taken_2 (xs := xs) (LL := LL) (σ := σ) (μ := μ) (ln := ln) 9 q hq hL hsr
        rw [es] at q1
        match s, hs6 with
        | 0, _ => exact op_same2 h (by first | exact h8.symm | rfl) q1 (sp_X12_taken_02 8 hRL.1 hL q hq h7)
        | 1, _ => exact op_same2 h (by first | exact h8.symm | rfl) q1 (sp_X12_taken_12 8 hRL.1 hL q hq h7)
        | 2, _ => exact op_same2 h (by first | exact h8.symm | rfl) q1 (sp_X12_taken_22 8 hRL.1 hL q hq h7)
        | 3, _ => exact op_same2 h (by first | exact h8.symm | rfl) q1 (sp_X12_taken_32 8 hRL.1 hL q hq h7)
        | 4, _ => exact op_same2 h (by first | exact h8.symm | rfl) q1 (sp_X12_taken_42 8 hRL.1 hL q hq h7)
        | 5, _ => exact op_same2 h (by first | exact h8.symm | rfl) q1 (sp_X12_taken_52 8 hRL.1 hL q hq h7)
      | 3, _ =>
        have q1 := sp_X11_taken_3 (xs := xs) (LL := LL) (σ := σ) (μ := μ) (ln := ln) 9 q hq hL hsr
        rw [es] at q1
        match s, hs6 with
        | 0, _ => exact op_same2 h (by first | exact h8.symm | rfl) q1 (sp_X12_taken_03 8 hRL.1 hL q hq h7)
        | 1, _ => exact op_same2 h (by first | exact h8.symm | rfl) q1 (sp_X12_taken_13 8 hRL.1 hL q hq h7)
        | 2, _ => exact op_same2 h (by first | exact h8.symm | rfl) q1 (sp_X12_taken_23 8 hRL.1 hL q hq h7)
        | 3, _ => exact op_same2 h (by first | exact h8.symm | rfl) q1 (sp_X12_taken_33 8 hRL.1 hL q hq h7)
        | 4, _ => exact op_same2 h (by first | exact h8.symm | rfl) q1 (sp_X12_taken_43 8 hRL.1 hL q hq h7)
        | 5, _ => exact op_same2 h (by first | exact h8.symm | rfl) q1 (sp_X12_taken_53 8 hRL.1 hL q hq h7)
      | 4, _ =>
        have q1 := sp_X11_taken_4 (xs := xs) (LL := LL) (σ := σ) (μ := μ) (ln := ln) 9 q hq hL hsr
        rw [es] at q1
        match s, hs6 with
        | 0, _ => exact op_same2 h (by first | exact h8.symm | rfl) q1 (sp_X12_taken_04 8 hRL.1 hL q hq h7)
        | 1, _ => exact op_same2 h (by first | exact h8.symm | rfl) q1 (sp_X12_taken_14 8 hRL.1 hL q hq h7)
        | 2, _ => exact op_same2 h (by first | exact h8.symm | rfl) q1 (sp_X12_taken_24 8 hRL.1 hL q hq h7)
        | 3, _ => exact op_same2 h (by first | exact h8.symm | rfl) q1 (sp_X12_taken_34 8 hRL.1 hL q hq h7)
        | 4, _ => exact op_same2 h (by first | exact h8.symm | rfl) q1 (sp_X12_taken_44 8 hRL.1 hL q hq h7)
        | 5, _ => exact op_same2 h (by first | exact h8.symm | rfl) q1 (sp_X12_taken_54 8 hRL.1 hL q hq h7)
      | 5, _ =>
        have q1 := sp_X11_taken_5 (xs := xs) (LL := LL) (σ := σ) (μ := μ) (ln := ln) 9 q hq hL hsr
        rw [es] at q1
        match s, hs6 with
        | 0, _ => exact op_same2 h (by first | exact h8.symm | rfl) q1 (sp_X12_taken_05 8 hRL.1 hL q hq h7)
        | 1, _ => exact op_same2 h (by first | exact h8.symm | rfl) q1 (sp_X12_taken_15 8 hRL.1 hL q hq h7)
        | 2, _ => exact op_same2 h (by first | exact h8.symm | rfl) q1 (sp_X12_taken_25 8 hRL.1 hL q hq h7)
        | 3, _ => exact op_same2 h (by first | exact h8.symm | rfl) q1 (sp_X12_taken_35 8 hRL.1 hL q hq h7)
        | 4, _ => exact op_same2 h (by first | exact h8.symm | rfl) q1 (sp_X12_taken_45 8 hRL.1 hL q hq h7)
        | 5, _ => exact op_same2 h (by first | exact h8.symm | rfl) q1 (sp_X12_taken_55 8 hRL.1 hL q hq h7)
end OL
