/-! way, tooMuch, ask, race, run, cut -/
theorem rl_bd_and {M : Nat} {a b : Int32} (h : pu_bd M a) : pu_bd M (a &&& b) := by
  intro i hi hb
  rw [b_and] at hb
  exact h i hi ((Bool.and_eq_true _ _).mp hb).1
/-- what a loop of ors has set -/
theorem rl_orit {f : Nat → Int32 → Int32} {g : Nat → Int32} {a : Int32} {p : Nat} : ∀ n, (∀ i b, i < n → f i b = b ||| g i) → (bt (am_it f a n) p = true ↔ bt a p = true ∨ ∃ i, i < n ∧ bt (g i) p = true) := by
  intro n
  induction n with
  | zero => intro _; exact ⟨fun h => Or.inl h, fun h => h.elim id (fun ⟨i, hi, _⟩ => absurd hi (Nat.not_lt_zero _))⟩
  | succ n ih =>
    intro h
    rw [am_itS, h n _ (by omega), b_or, Bool.or_eq_true, ih (fun i b hi => h i b (by omega))]
    constructor
    · rintro ((h1 | ⟨i, hi, h1⟩) | h1)
      · exact Or.inl h1
      · exact Or.inr ⟨i, by omega, h1⟩
      · exact Or.inr ⟨n, by omega, h1⟩
    · rintro (h1 | ⟨i, hi, h1⟩)
      · exact Or.inl (Or.inl h1)
      · by_cases e : i = n
        · subst e; exact Or.inr h1
        · exact Or.inl (Or.inr ⟨i, by omega, h1⟩)
theorem rl_ext {x y : Int32} (h : ∀ p, p < 32 → (bt x p = true ↔ bt y p = true)) : x = y := b_ext (fun p hp => rl_bb (h p hp))
section OW
variable {xs : Nat → Int32} {LL : Nat} {σ τ ρ μ ν κ : Nat → Nat → Int32} {sr : Nat → Nat} {ln lm : Nat → Nat → Int32} {Lc O T : Nat}
theorem op_way (h : rl_ σ sr ln Lc μ O T) (o n : Int32) : op_I xs LL 101 177 [.int o, .int n] σ sr ln Lc μ := by
  have hO := h.2.2.2.1
  cases e : am_in o O with
  | false => exact op_same h (-2) (sp_X11_way_bad1 8 hO.2.1 hO.1 o n e) (sp_X12_way_bad1 8 hO.2.2.1 hO.1 o n e)
  | true =>
    obtain ⟨o, ho, rfl⟩ := am_in_nI e
    cases e3 : am_in n 20 with
    | false => exact op_same h (-2) (sp_X11_way_bad2 8 hO.2.1 hO.1 o n ho e3) (sp_X12_way_bad2 8 hO.2.2.1 hO.1 o n ho e3)
    | true =>
      obtain ⟨n, hn, rfl⟩ := am_in_nI e3
      obtain ⟨τ, ν, N, hf, hw, hr0, hr, eq, hb, hb2, eN, eN2, hN, hSF, h27, hfr⟩ := rl_fill xs LL h
      obtain ⟨hN1, hH, hF⟩ := hSF
      have hWF := hr0.1
      have hob := rl_ob hr0.2.2.2.1
      have ho16 : o < 16 := by have := hO.1; omega
      have hi := pu_Y_inv (bk := false) (wo := -1) hWF hob (μ 24) (μ 25)
      have h0 := fun r => pu_Y_0 (bk := false) (wo := -1) hWF hob (μ 24) (μ 25) r
      have hne : ∀ r, r ≤ N → ¬ (pu_Y τ sr ln Lc false (-1) (μ 24) (μ 25) r).1 = 0 := by
        intro r hr
        cases r with
        | zero => exact (by decide : ¬ (1 : Int32) = 0)
        | succ r => exact fun q => (h0 r).mp q (hN1.2.2 r (by omega))
      have hok : ∀ r, am_okM (am_bM false O) (pu_Y τ sr ln Lc false (-1) (μ 24) (μ 25) r).2.1 := fun r => pu_okM (fun k hk => by rw [hi r k hk]; exact pu_W_bd hWF hob r k)
      have hfin : ∀ R, rl_ τ sr ln Lc (am_up (am_up (am_us (am_us (am_us μ 27 0) 28 (-1)) 26 0) 24 (pu_Y τ sr ln Lc false (-1) (μ 24) (μ 25) R).2.1) 25 (pu_Y τ sr ln Lc false (-1) (μ 24) (μ 25) R).2.2) O T := fun R => rl_nu (fun j hj => by rw [am_up_ne (by omega), am_up_ne (by omega), am_us_ne (by omega), am_us_ne (by omega), am_us_ne (by omega)]) hr0
      have hcl := sp_X11_way_ok (xs := xs) (LL := LL) (μ := μ) 4 hO.2.1 hO.1 o n ho hn hf
      cases hh : am_hb (pu_W τ sr ln Lc false (-1) N n) o with
      | true =>
        rcases pu_first (fun r => am_hb (pu_W τ sr ln Lc false (-1) r n) o = false) (fun r => Classical.em _) (N + 1) with hall | ⟨t, ht, h1, h2⟩
        · have := hall N (by omega)
          rw [hh] at this; cases this
        · have h1 : am_hb (pu_W τ sr ln Lc false (-1) t n) o = true := by
            cases e : am_hb (pu_W τ sr ln Lc false (-1) t n) o with
            | true => rfl
            | false => exact absurd e h1
          cases t with
          | zero =>
            exfalso
            rw [pu_hb (by omega)] at h1
            have h1 : bt 0 o = true := h1
            rw [b_0] at h1; cases h1
          | succ t =>
            have hq := sp_X12_way_ok (xs := xs) (LL := LL) 5 hWF hr0.2.1 hr0.2.2.1 hr0.2.2.2.1 o n ho hn (t + 1) (fun r hr => ⟨hne r (by omega), by rw [hi r n (by omega)]; exact h2 r hr⟩) (Or.inr (by rw [hi _ n (by omega)]; exact h1)) (fun r _ => hok r)
            refine op_q (hfin (t + 1)) ?_ hcl hq
            rw [hH n (by omega), hh, hi _ n (by omega), h1]
            exact hF n o hn ho16 t (by omega) (h2 t (by omega)) h1
      | false =>
        have hall : ∀ r, r ≤ N → am_hb (pu_W τ sr ln Lc false (-1) r n) o = false := by
          intro r hr
          cases e : am_hb (pu_W τ sr ln Lc false (-1) r n) o with
          | false => rfl
          | true =>
            rw [pu_hb (by omega)] at e
            have e2 := pu_W_mono n o (N - r) r e
            rw [show r + (N - r) = N by omega, ← pu_hb (by omega), hh] at e2
            cases e2
        have hq := sp_X12_way_ok (xs := xs) (LL := LL) 5 hWF hr0.2.1 hr0.2.2.1 hr0.2.2.2.1 o n ho hn (N + 1) (fun r hr => ⟨hne r (by omega), by rw [hi r n (by omega)]; exact hall r (by omega)⟩) (Or.inl ((h0 N).mpr hN1.2.1)) (fun r _ => hok r)
        refine op_q (hfin (N + 1)) ?_ hcl hq
        rw [hH n (by omega), hh, hi _ n (by omega), pu_stopN hN1 (by omega), hh]
        rfl
theorem op_tooMuch (h : rl_ σ sr ln Lc μ O T) (n : Int32) : op_I xs LL 103 180 [.int n] σ sr ln Lc μ := by
  cases e : am_in n 20 with
  | false => exact op_same h (-2) (sp_X11_tooMuch_bad 8 n e) (sp_X12_tooMuch_bad 8 n e)
  | true =>
    obtain ⟨n, hn, rfl⟩ := am_in_nI e
    obtain ⟨τ, hg, hτ, hbK, hx⟩ := rl_fillK xs LL h
    obtain ⟨ρ, ν', N, hf, hw', hr0, hr', eq', hb', hb2, eN, eN2, hN, hSF, h27, hfr⟩ := rl_fill xs LL hτ
    obtain ⟨ν, hw, hr, eqK⟩ := hx ρ hr0 (fun j hj => hfr j (Or.inl (by omega)))
    obtain ⟨κ, N2, hN2, w1, w2, w3, w4, hw2⟩ := rl_wo0 xs LL hr.1 (rl_ob hr.2.2.2.1) hr.2.1 hr.2.2.1 hr.2.2.2.1 (-1)
    have hκ : rl_ ρ sr ln Lc κ O T := rl_nu (fun j hj => w3 j (by omega)) hr
    have eN3 : N2 = N := pu_isN_u hN2 hSF.1
    subst eN3
    have eκ : ρ 12 n = κ 24 n := (hSF.2.1 n (by omega)).trans (w1 n (by omega)).symm
    have hO := hκ.2.2.2.1
    refine op_q hκ ?_ (sp_X11_tooMuch_ok 4 n hn hO.2.1 hO.1 (rl_bd_and (rl_bd16 (hbK n (by omega)) (by decide))) hg hf) (sp_X12_tooMuch_ok 4 n hn hO.2.2.1 hO.1 (ρ 4) (fun o ho d => rl_kindOf hκ ho d) (rl_bd_and (rl_bd16 (by rw [← eqK n (by omega)]; exact hbK n (by omega)) (by decide : 8 ≤ 16))) hw hw2)
    rw [eqK n (by omega), eκ]
theorem rl_wkc (sr : Nat → Nat) (ln : Nat → Nat → Int32) (Lc : Nat) : ∀ n, ∃ c, c ≤ 6 * n ∧ am_it (pu_wkS sr ln Lc) 0 n = nI c ∧ (c = 0 → ∀ i, i < n → i < Lc → ln i 6 = 0) := by
  intro n
  induction n with
  | zero => exact ⟨0, by omega, rfl, fun _ i hi => absurd hi (Nat.not_lt_zero _)⟩
  | succ n ih =>
    obtain ⟨c, h1, h2, h3⟩ := ih
    rw [am_itS, h2]
    unfold pu_wkS
    by_cases hn : n < Lc
    · rw [if_pos hn]
      by_cases h0 : ln n 6 = 0
      · rw [if_pos h0]
        refine ⟨c, by omega, rfl, fun hc i hi hL => ?_⟩
        by_cases e : i = n
        · subst e; exact h0
        · exact h3 hc i (by omega) hL
      · rw [if_neg h0, nI_add]
        have hk : 1 ≤ am_wk (sr n) ∧ am_wk (sr n) ≤ 6 := by
          unfold am_wk
          split <;> decide
        exact ⟨c + am_wk (sr n), by omega, rfl, fun hc => by omega⟩
    · rw [if_neg hn]
      exact ⟨c, by omega, rfl, fun hc i hi hL => h3 hc i (by omega) hL⟩
theorem rl_N0 (hoff : ∀ i, i < Lc → ln i 6 = 0) {bk : Bool} {wo : Int32} {N : Nat} (hN : pu_isN σ sr ln Lc bk wo N) : N = 0 := by
  rcases Nat.eq_zero_or_pos N with q | q
  · exact q
  · exfalso
    obtain ⟨k, hk, hne⟩ := hN.2.2 0 q
    apply hne
    rw [pu_WS]
    have hR : pu_R σ sr ln Lc bk wo (pu_W σ sr ln Lc bk wo 0) k = 0 := by
      unfold pu_R
      have key : ∀ n, n ≤ Lc → am_it (am_lnX σ sr ln Lc bk wo (pu_W σ sr ln Lc bk wo 0)) (fun _ => 0) n = fun _ => 0 := by
        intro n
        induction n with
        | zero => intro _; rfl
        | succ n ih =>
          intro hn
          rw [am_itS, ih (by omega)]
          unfold am_lnX
          rw [if_pos (by omega : n < Lc)]
          split
          · rfl
          · rw [if_pos (hoff n (by omega))]
      rw [key Lc (Nat.le_refl _)]
    rw [hR, pu_or_zero]
theorem rl_bit1 {v : Int32} {q p : Nat} (hq : q < 32) (hp : p < 32) (e : v = nI q) : bt (1 <<< (v &&& 31)) p = decide (p = q) := by rw [e]; exact pu_one hq hp
/-- the objects whose MAKE is on, by the lines and by the objects -/
theorem rl_objs (h : rl_ σ sr ln Lc μ O T) (mk : Nat → Nat) (hmk : ∀ o, o < O → μ 18 o = nI (mk o) ∧ mk o < Lc) : am_it (pu_obS sr ln Lc) 0 40 = am_it (pu_omS ln mk) 0 O := by
  have hL := h.1.2.2.2.2.2.2
  obtain ⟨r1, r2, r3, r4, r5⟩ := h.2.2.2.1
  have e40 := pu_it_stop (f := pu_obS sr ln Lc) (a := 0) (n := Lc) (fun i b hi => if_neg (by omega)) (40 - Lc)
  rw [show Lc + (40 - Lc) = 40 by omega] at e40
  rw [e40]
  apply rl_ext
  intro p hp
  rw [rl_orit (g := fun i => if sr i = 5 then (if ln i 6 = 0 then 0 else 1 <<< (ln i 7 &&& 31)) else 0) Lc (fun i b hi => ?_), rl_orit (g := fun o => if ln (mk o) 6 = 0 then 0 else 1 <<< (nI o &&& 31)) O (fun o b ho => ?_), b_0]
  · constructor
    · rintro (q | ⟨i, hi, q⟩)
      · cases q
      · refine Or.inr ?_
        try dsimp only at q
        by_cases hs : sr i = 5
        · rw [if_pos hs] at q
          by_cases h6 : ln i 6 = 0
          · rw [if_pos h6, b_0] at q; cases q
          · rw [if_neg h6] at q
            obtain ⟨o, ho, e7, e18⟩ := r5 i hi hs
            rw [rl_bit1 (by omega) hp e7] at q
            have q := of_decide_eq_true q
            subst q
            have em : mk p = i := by
              have := (hmk p ho).1
              rw [e18] at this
              exact ((nI_eq (by omega) (by have := (hmk p ho).2; omega)).mp this).symm
            refine ⟨p, ho, ?_⟩
            try dsimp only
            rw [em, if_neg h6, rl_bit1 (q := p) (by omega) hp rfl]
            exact decide_eq_true rfl
        · rw [if_neg hs, b_0] at q; cases q
    · rintro (q | ⟨o, ho, q⟩)
      · cases q
      · refine Or.inr ?_
        try dsimp only at q
        by_cases h6 : ln (mk o) 6 = 0
        · rw [if_pos h6, b_0] at q; cases q
        · rw [if_neg h6, rl_bit1 (q := o) (by omega) hp rfl] at q
          have q := of_decide_eq_true q
          subst q
          obtain ⟨l, a1, a2, a3, a4, a5⟩ := r4 p ho
          have em : mk p = l := by
            have := (hmk p ho).1
            rw [a2] at this
            exact ((nI_eq (by omega) (by have := (hmk p ho).2; omega)).mp this).symm
          refine ⟨l, a1, ?_⟩
          try dsimp only
          rw [if_pos a3, if_neg (by rw [← em]; exact h6), rl_bit1 (by omega) hp a4]
          exact decide_eq_true rfl
  · unfold pu_omS
    split
    · rw [pu_or_zero]
    · rfl
  · unfold pu_obS
    rw [if_pos hi]
    split
    · split
      · rw [pu_or_zero]
      · rfl
    · rw [pu_or_zero]
theorem rl_mk (h : rl_ σ sr ln Lc μ O T) : ∃ mk : Nat → Nat, ∀ o, o < O → μ 18 o = nI (mk o) ∧ mk o < Lc ∧ sr (mk o) = 5 ∧ ln (mk o) 7 = nI o := by
  have hL := h.1.2.2.2.2.2.2
  obtain ⟨r1, r2, r3, r4, r5⟩ := h.2.2.2.1
  refine ⟨fun o => (μ 18 o).toNatClampNeg, fun o ho => ?_⟩
  obtain ⟨l, a1, a2, a3, a4, a5⟩ := r4 o ho
  dsimp only
  rw [a2, nI_clamp (by omega)]
  exact ⟨rfl, a1, a3, a4⟩
theorem op_ask (h : rl_ σ sr ln Lc μ O T) (n B w : Int32) : op_I xs LL 104 182 [.int n, .int B, .int w] σ sr ln Lc μ := by
  cases hb0 : (am_in n 20 && (decide ((0 : Int32) ≤ B ∧ B ≤ 99999) && am_in w 3)) with
  | false => exact op_same h (-2) (sp_X11_ask_bad 8 n B w hb0) (sp_X12_ask_bad 8 n B w hb0)
  | true =>
    obtain ⟨hn0, hb1⟩ := (Bool.and_eq_true _ _).mp hb0
    obtain ⟨hB0, hw30⟩ := (Bool.and_eq_true _ _).mp hb1
    rw [am_wi (x := B) (n := 100000) (c := 99999) rfl] at hB0
    obtain ⟨n, hn, rfl⟩ := am_in_nI hn0
    obtain ⟨w, hw3, rfl⟩ := am_in_nI hw30
    obtain ⟨B, hB, rfl⟩ := am_in_nI hB0
    obtain ⟨τ, ν, N, hf, hw, hr0, hr, eq, hb, hb2, eN, eN2, hN, hSF, h27, hfr⟩ := rl_fill xs LL h
    have hL := h.1.2.2.2.2.2.2
    have hsr := h.1.2.2.2.2.1
    have hO := hr.2.2.2.1
    obtain ⟨mk, hmk⟩ := rl_mk hr
    have hmk2 : ∀ o, o < O → ν 18 o = nI (mk o) ∧ mk o < Lc := fun o ho => ⟨(hmk o ho).1, (hmk o ho).2.1⟩
    have hobj := rl_objs hr mk hmk2
    obtain ⟨c, hc1, hc2, hc3⟩ := rl_wkc sr ln Lc 40
    have hk1 : ∀ d, am_X xs LL (d + 4) 133 [.ref 14] (hG τ sr ln Lc μ) (some (.int (nI c))) (hG τ sr ln Lc μ) := fun d => by
      have q := sp_X11_workOfLinesOn (xs := xs) (LL := LL) (σ := τ) (μ := μ) (ln := ln) d hsr
      rw [hc2] at q
      exact q
    have hk2 : ∀ d, am_X xs LL (d + 2) 181 [.ref 47] (hG τ sr ln Lc μ) (some (.int (nI c))) (hG τ sr ln Lc μ) := fun d => by
      have q := sp_X12_workOfAll (xs := xs) (LL := LL) (σ := τ) (μ := μ) (sr := sr) (ln := ln) (Lc := Lc) d hr0.2.2.1.1 hL (fun i hi => ⟨sr i, hsr i hi, hr0.2.2.1.2.1 i hi⟩)
      rw [← rl_wk40 hr0, hc2] at q
      exact q
    rcases Nat.eq_zero_or_pos c with c0 | c0
    · have hN0 : N = 0 := rl_N0 (fun i hi => hc3 c0 i (by omega) hi) hSF.1
      match w, hw3 with
      | 0, _ =>
        refine op_q hr ?_ (sp_X11_ask_z0 4 hsr n hn B hB (N := N) (by omega) eN (by omega) hk1 c0 hf) (sp_X12_ask_z0 4 n hn B hB (N := N) (by omega) eN2 hr.2.2.1 hL hO.2.2.1 hO.1 mk hmk2 (by omega) hk2 c0 hw)
        rw [if_pos (by rw [hN0]; decide), if_pos (nI_le (Nat.le_refl _) (by omega)), eq n (by omega)]
      | 1, _ =>
        refine op_q hr ?_ (sp_X11_ask_z1 4 hsr n hn B hB (N := N) (by omega) eN (by omega) hk1 c0 hf) (sp_X12_ask_z1 4 n hn B hB (N := N) (by omega) eN2 hr.2.2.1 hL hO.2.2.1 hO.1 mk hmk2 (by omega) hk2 c0 hw)
        rw [if_pos (by rw [hN0]; decide), if_pos (nI_le (Nat.le_refl _) (by omega))]
      | 2, _ =>
        refine op_q hr ?_ (sp_X11_ask_z2 4 hsr n hn B hB (N := N) (by omega) eN (by omega) hk1 c0 hf) (sp_X12_ask_z2 4 n hn B hB (N := N) (by omega) eN2 hr.2.2.1 hL hO.2.2.1 hO.1 mk hmk2 (by omega) hk2 c0 hw)
        rw [hN0, c0]
        rfl
    · match w, hw3 with
      | 0, _ =>
        refine op_q hr ?_ (sp_X11_ask_p0 4 hsr n hn B hB (N := N) (by omega) eN (by omega) hk1 c0 hf) (sp_X12_ask_p0 4 n hn B hB (N := N) (by omega) eN2 hr.2.2.1 hL hO.2.2.1 hO.1 mk hmk2 (by omega) hk2 c0 hw)
        rw [eq n (by omega), hobj, Nat.min_comm]
      | 1, _ =>
        refine op_q hr ?_ (sp_X11_ask_p1 4 hsr n hn B hB (N := N) (by omega) eN (by omega) hk1 c0 hf) (sp_X12_ask_p1 4 n hn B hB (N := N) (by omega) eN2 hr.2.2.1 hL hO.2.2.1 hO.1 mk hmk2 (by omega) hk2 c0 hw)
        rw [Nat.min_comm]
      | 2, _ =>
        refine op_q hr ?_ (sp_X11_ask_p2 4 hsr n hn B hB (N := N) (by omega) eN (by omega) hk1 c0 hf) (sp_X12_ask_p2 4 n hn B hB (N := N) (by omega) eN2 hr.2.2.1 hL hO.2.2.1 hO.1 mk hmk2 (by omega) hk2 c0 hw)
        rw [Nat.min_comm]
theorem rl_ri_no {p : Nat → Nat → Bool} {x : Int32} (hx : ¬ -1 ≤ x) {a : Nat} : ∀ r b n, n + r < 1000000 → ∃ m, pu_ri p x a r b n = .inr m ∧ m ≤ n + r := by
  intro r
  induction r with
  | zero => intro b n _; exact ⟨n, rfl, by omega⟩
  | succ r ih =>
    intro b n hn
    cases hp : p a b with
    | false =>
      rw [pu_ri_f hp]
      obtain ⟨m, e, hm⟩ := ih (b + 1) n (by omega)
      exact ⟨m, e, by omega⟩
    | true =>
      rw [pu_ri_t2 hp (fun q => hx (by rw [← q, Int32.le_iff_toInt_le, nI_toInt (by omega)]; rw [show (-1 : Int32).toInt = -1 by decide]; omega))]
      obtain ⟨m, e, hm⟩ := ih (b + 1) (n + 1) (by omega)
      exact ⟨m, e, by omega⟩
theorem rl_ro_no {p : Nat → Nat → Bool} {x : Int32} (hx : ¬ -1 ≤ x) {L : Nat} (hL : L ≤ 40) : ∀ r a n, n + 40 * r < 900000 → pu_ro p x L r a n = -1 := by
  intro r
  induction r with
  | zero =>
    intro a n _
    exact if_neg (fun q => hx (by rw [q]; decide))
  | succ r ih =>
    intro a n hn
    obtain ⟨m, e, hm⟩ := rl_ri_no (p := p) hx (a := a) (L - (a + 1)) (a + 1) n (by omega)
    show (match pu_ri p x a (L - (a + 1)) (a + 1) n with
      | .inl v => v
      | .inr m => pu_ro p x L r (a + 1) m) = -1
    rw [e]
    exact ih (a + 1) m (by omega)
theorem rl_rc (h : rl_ σ sr ln Lc μ O T) {H K : Nat → Int32} (eq : ∀ k, k < 68 → H k = K k) {a b : Nat} (ha : a < Lc) (hb : b < Lc) : pu_rcB sr ln H a b = pu_rmB sr ln K a b := by
  have hwl := h.1.2.2.2.2.2.1
  have tch : ∀ i, i < Lc → (¬ pu_tch sr ln i = -1 ↔ (sr i = 2 ∨ sr i = 3)) ∧ ((sr i = 2 ∨ sr i = 3) → am_hat H (pu_tch sr ln i) = pu_bsF sr ln K i) := by
    intro i hi
    obtain ⟨⟨x0, hx0, e0⟩, -, h1, -⟩ := hwl i hi
    unfold pu_tch pu_bsF
    by_cases h2 : sr i = 2
    · obtain ⟨y, hy, e1⟩ := h1 (by omega)
      rw [if_pos h2, if_pos h2, e1, am_hat_nI (by omega), am_hat_nI (by omega)]
      exact ⟨⟨fun _ => Or.inl h2, fun _ => nI_m1 (by omega)⟩, fun _ => eq y (by omega)⟩
    · rw [if_neg h2, if_neg h2]
      by_cases h3 : sr i = 3
      · rw [if_pos h3, e0, am_hat_nI (by omega), am_hat_nI (by omega)]
        exact ⟨⟨fun _ => Or.inr h3, fun _ => nI_m1 (by omega)⟩, fun _ => eq x0 (by omega)⟩
      · rw [if_neg h3]
        exact ⟨⟨fun q => absurd rfl q, fun q => q.elim (fun g => absurd g h2) (fun g => absurd g h3)⟩, fun q => q.elim (fun g => absurd g h2) (fun g => absurd g h3)⟩
  obtain ⟨ta, va⟩ := tch a ha
  obtain ⟨tb, vb⟩ := tch b hb
  apply rl_bb
  unfold pu_rcB pu_rmB pu_mvB
  rw [decide_eq_true_iff, decide_eq_true_iff, decide_eq_true_iff, decide_eq_true_iff]
  constructor
  · rintro ⟨h1, h2, h3, h4, h5, h6, h7, h8, h9⟩
    have sa := ta.mp h5
    have sb := tb.mp h6
    refine ⟨⟨h1, sa⟩, ⟨h2, sb⟩, ?_, h3, h7, by rw [← va sa, ← vb sb]; exact h9, h8⟩
    rintro ⟨q1, q2⟩
    rcases h4 with g | g
    · omega
    · omega
  · rintro ⟨⟨h1, sa⟩, ⟨h2, sb⟩, h3, h4, h5, h6, h7⟩
    refine ⟨h1, h2, h4, ?_, ta.mpr sa, tb.mpr sb, h5, h7, by rw [va sa, vb sb]; exact h6⟩
    rcases sa with g | g
    · rcases sb with g2 | g2
      · exact absurd ⟨g, g2⟩ h3
      · exact Or.inr g2
    · exact Or.inl g
theorem op_race (h : rl_ σ sr ln Lc μ O T) (x : Int32) : op_I xs LL 112 195 [.int x] σ sr ln Lc μ := by
  have hL := h.1.2.2.2.2.2.2
  have hsr := h.1.2.2.2.2.1
  have hwl := h.1.2.2.2.2.2.1
  obtain ⟨τ, ν, N, hf, hw, hr0, hr, eq, hb, hb2, eN, eN2, hN, hSF, h27, hfr⟩ := rl_fill xs LL h
  by_cases hx : -1 ≤ x
  · refine op_q hr ?_ (sp_X11_race 4 x hL hsr hwl hf) (sp_X12_race_ok 4 x hx hL hsr hwl hr.2.2.1 hw)
    exact pu_ro_congr (fun a b hab hbL => rl_rc hr eq (by omega) hbL) Lc 0 0 (by omega)
  · exact op_q hr0 (rl_ro_no hx hL Lc 0 0 (by omega)) (sp_X11_race 4 x hL hsr hwl hf) (sp_X12_race_no 10 x hx)
theorem op_run (h : rl_ σ sr ln Lc μ O T) (s n : Int32) : op_I xs LL 113 198 [.int s, .int n] σ sr ln Lc μ := by
  cases hb0 : (decide ((0 : Int32) ≤ s ∧ s ≤ 99999) && decide ((0 : Int32) ≤ n ∧ n ≤ 500)) with
  | false => exact op_same h (-2) (sp_X11_run_bad 8 s n hb0) (sp_X12_run_bad 8 s n hb0)
  | true =>
    obtain ⟨hs0, hn0⟩ := (Bool.and_eq_true _ _).mp hb0
    rcases Nat.eq_zero_or_pos Lc with hL | hL
    · exact op_same h (-3) (sp_X11_run_state 8 s n hs0 hn0 hL) (sp_X12_run_state 8 s n hs0 hn0 (by rw [h.2.2.1.1, hL]; rfl))
    · have h' := h
      obtain ⟨hWF, hRK, hRL, hRO, hT, hM, hS, h10, h20⟩ := h'
      rw [am_wi (x := s) (n := 100000) (c := 99999) rfl] at hs0
      rw [am_wi (x := n) (n := 501) (c := 500) rfl] at hn0
      obtain ⟨s, hs, rfl⟩ := am_in_nI hs0
      obtain ⟨n, hn, rfl⟩ := am_in_nI hn0
      have hob := rl_ob hRO
      have hH0 : ∀ q, q < 68 → am_fill (fun _ => (-1)) (σ 40) 68 0 q = -1 := fun q hq => if_pos ⟨Nat.zero_le _, hq⟩
      have hD0 : ∀ q, q < 20 → am_fill (fun _ => 0) (σ 41) 68 0 q = 0 := fun q hq => if_pos ⟨Nat.zero_le _, by omega⟩
      have hcl := sp_X11_run_ok (xs := xs) (LL := LL) (μ := μ) 6 hWF hob s hs n hn hL (pu_run_ok hWF hob s hL (fun q hq => Or.inl (hH0 q hq)))
      generalize hHD : am_it (pu_rnS σ sr ln Lc s) (0, am_fill (fun _ => (-1)) (σ 40) 68 0, am_fill (fun _ => 0) (σ 41) 68 0) n = E at hcl
      have e2 : pu_rnS (am_up (am_up σ 40 E.2.1) 41 E.2.2) sr ln Lc s = pu_rnS σ sr ln Lc s := rfl
      have hWF2 : am_WF (am_up (am_up σ 40 E.2.1) 41 E.2.2) sr ln Lc := hWF
      have hRK2 : am_RK (am_up (am_up σ 40 E.2.1) 41 E.2.2) μ := hRK
      have hRO2 : am_RO (am_up (am_up σ 40 E.2.1) 41 E.2.2) sr ln Lc O μ := hRO
      obtain ⟨ν1, m1, m2, m3⟩ := sp_X12_run_ok xs LL hWF2 hob hRK2 hRL hRO2 s hs n hn hL (am_fill (fun _ => (-1)) (σ 40) 68 0) (am_fill (fun _ => 0) (σ 41) 68 0) hH0 hD0
      rw [e2, hHD] at m1
      have m3 := m3 5
      rw [e2, hHD] at m3
      refine ⟨_, _, _, _, _, _, O, T, hcl, m3, hWF2, am_RKx m2 hRK2, am_RLx m2 hRL, am_ROx m2 hRO2, ?_, ?_, ?_, rl_set_fr (σ := σ) rfl rfl rfl rfl rfl rfl rfl rfl rfl h10, rl_set_fr (σ := σ) rfl rfl rfl rfl rfl rfl rfl rfl rfl h20⟩
      · unfold rl_tape
        rw [m2 20 (by decide), m2 21 (by decide)]
        exact hT
      · exact fun q hq => ⟨m1.1 q hq, m1.2.1 q hq⟩
      · unfold rl_shs rl_she
        rw [m2 33 (by decide), m2 34 (by decide), m2 35 (by decide), m2 36 (by decide)]
        exact hS
theorem op_cut (h : rl_ σ sr ln Lc μ O T) (o n : Int32) : op_J xs LL 108 187 [.int o, .int n] σ sr ln Lc μ := by
  have hO := h.2.2.2.1
  cases e : am_in o O with
  | false => exact ⟨_, _, _, _, _, _, O, T, sp_X11_cut_bad1 8 hO.2.1 hO.1 o n e, sp_X12_cut_bad1 8 hO.2.2.1 hO.1 o n e, h⟩
  | true =>
    obtain ⟨o, ho, rfl⟩ := am_in_nI e
    cases e3 : am_in n 20 with
    | false => exact ⟨_, _, _, _, _, _, O, T, sp_X11_cut_bad2 8 hO.2.1 hO.1 o n ho e3, sp_X12_cut_bad2 8 hO.2.2.1 hO.1 o n ho e3, h⟩
    | true =>
      obtain ⟨n, hn, rfl⟩ := am_in_nI e3
      obtain ⟨τ, ν, N, hf, hw, hr0, hr, eq, hb, hb2, eN, eN2, hN, hSF, h27, hfr⟩ := rl_fill xs LL h
      have hL := h.1.2.2.2.2.2.2
      have hsr := h.1.2.2.2.2.1
      have hob := rl_ob hr0.2.2.2.1
      cases hh : am_hb (τ 12 n) o with
      | false => exact ⟨_, _, _, _, _, _, O, T, sp_X11_cut_0 4 hO.2.1 hO.1 o n ho hn hh hf, sp_X12_cut_0 4 hO.2.2.1 hO.1 o n ho hn (by rw [← eq n (by omega)]; exact hh) hw, hr⟩
      | true =>
        have hcb : ∃ cb : Nat → Bool, ∀ i, i < Lc → ∀ M, pu_isN τ sr ln Lc false (nI i) M → am_hb (pu_W τ sr ln Lc false (nI i) M n) o = cb i := by
          have hch : ∀ i, ∃ b : Bool, ∀ M, pu_isN τ sr ln Lc false (nI i) M → am_hb (pu_W τ sr ln Lc false (nI i) M n) o = b := by
            intro i
            obtain ⟨M0, hM0⟩ := pu_N hr0.1 hob false (nI i)
            exact ⟨_, fun M hM => by rw [pu_isN_u hM hM0]⟩
          exact ⟨fun i => Classical.choose (hch i), fun i _ => Classical.choose_spec (hch i)⟩
        obtain ⟨cb, hcb⟩ := hcb
        obtain ⟨τ1, f1, hcl⟩ := sp_X11_cut_ok (xs := xs) (LL := LL) (μ := μ) 4 hO.2.1 hO.1 hL hsr hr0.1 hob o n ho hn hh cb hcb hf
        have f5 : ∀ j, j < 5 → τ1 j = τ j := fun j hj => f1 j (Or.inl (by omega))
        have h1 : rl_ τ1 sr ln Lc μ O T := rl_tau (fun j hj => f1 j (by omega)) hr0 (rl_set_fr (f1 0 (by decide)) (f1 1 (by decide)) (f1 2 (by decide)) (f1 3 (by decide)) (f1 4 (by decide)) (f1 10 (by decide)) (f1 11 (by decide)) (f1 12 (by decide)) (f1 14 (by decide)) hr0.2.2.2.2.2.2.2.1) (rl_set_fr (f1 0 (by decide)) (f1 1 (by decide)) (f1 2 (by decide)) (f1 3 (by decide)) (f1 4 (by decide)) (f1 20 (by decide)) (f1 21 (by decide)) (f1 22 (by decide)) (f1 24 (by decide)) hr0.2.2.2.2.2.2.2.2)
        obtain ⟨ν0, N0, hN0, w1, w2, w3, w4, hw0⟩ := rl_wo0 xs LL h1.1 hob h1.2.1 h1.2.2.1 h1.2.2.2.1 (-1)
        have hν0 : rl_ τ1 sr ln Lc ν0 O T := rl_nu (fun j hj => w3 j (by omega)) h1
        have eN0 : N0 = N := pu_isN_u (pu_isN_fr f5 hN0) hSF.1
        subst eN0
        have hh0 : am_hb (ν0 24 n) o = true := by
          rw [w1 n (by omega), pu_W_fr f5, ← hSF.2.1 n (by omega)]
          exact hh
        obtain ⟨ν1, g1, hq⟩ := sp_X12_cut_ok (xs := xs) (LL := LL) 4 h1.2.2.2.1.2.2.1 hO.1 hL h1.1 hob hν0.2.1 hν0.2.2.1 hν0.2.2.2.1 o n ho hn hh0 cb (fun i hi M hM => by rw [pu_W_fr f5]; exact hcb i hi M (pu_isN_fr f5 hM)) hw0
        exact ⟨_, _, _, _, _, _, O, T, hcl, hq, rl_nu (fun j hj => g1 j (by omega)) hν0⟩
end OW
