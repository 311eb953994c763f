/-! calls over the sets: what filled and workOut leave -/
theorem rl_itO {α : Type} {f : Nat → α → α} {a : α} {O : Nat} (hO : O ≤ 16) (h : ∀ i b, O ≤ i → i < 16 → f i b = b) : am_it f a 16 = am_it f a O := by
  have key : ∀ n, O + n ≤ 16 → am_it f a (O + n) = am_it f a O := by
    intro n
    induction n with
    | zero => intro _; rfl
    | succ n ih =>
      intro hn
      rw [show O + (n + 1) = (O + n) + 1 from rfl, am_itS, h _ _ (by omega) (by omega), ih (by omega)]
  have e := key (16 - O) (by omega)
  rw [show O + (16 - O) = 16 by omega] at e
  exact e
theorem rl_bd16 {M : Nat} {v : Int32} (h : pu_bd M v) (hM : M ≤ 16) : pu_bd 16 v := fun i hi hb => Nat.lt_of_lt_of_le (h i hi hb) hM
theorem rl_hbf {M : Nat} {v : Int32} (h : pu_bd M v) {p : Nat} (hp : M ≤ p) (hp2 : p < 32) : am_hb v p = false := by
  cases e : am_hb v p with
  | false => rfl
  | true =>
    rw [pu_hb hp2] at e
    exact absurd (h p hp2 e) (by omega)
section OQ
variable {xs : Nat → Int32} {LL : Nat} {σ τ μ ν : Nat → Nat → Int32} {sr : Nat → Nat} {ln lm : Nat → Nat → Int32} {Lc O T : Nat}
theorem rl_tau (hf : ∀ j, j < 10 ∨ 34 < j → τ j = σ j) (h : rl_ σ sr ln Lc μ O T) (a : rl_set τ sr ln Lc false 10) (b : rl_set τ sr ln Lc true 20) : rl_ τ sr ln Lc μ O T := by
  obtain ⟨hWF, hRK, hRL, hRO, hT, hM, hS, -, -⟩ := h
  refine ⟨?_, ?_, hRL, ?_, ?_, ?_, ?_, a, b⟩
  · exact am_WF_fr (fun j hj => hf j (Or.inl (by omega))) hWF
  · unfold am_RK
    rw [hf 1 (by decide), hf 2 (by decide), hf 3 (by decide), hf 5 (by decide)]
    exact hRK
  · unfold am_RO
    rw [hf 6 (by decide), hf 4 (by decide)]
    exact hRO
  · unfold rl_tape
    rw [hf 8 (by decide), hf 7 (by decide)]
    exact hT
  · unfold rl_mach
    rw [hf 40 (by decide), hf 41 (by decide)]
    exact hM
  · unfold rl_shs rl_she
    rw [hf (51 + 3 * 0) (by decide), hf (52 + 3 * 0) (by decide), hf (50 + 3 * 0) (by decide), hf (51 + 3 * 1) (by decide), hf (52 + 3 * 1) (by decide), hf (50 + 3 * 1) (by decide), hf (51 + 3 * 2) (by decide), hf (52 + 3 * 2) (by decide), hf (50 + 3 * 2) (by decide), hf (51 + 3 * 3) (by decide), hf (52 + 3 * 3) (by decide), hf (50 + 3 * 3) (by decide)]
    exact hS
theorem rl_nu (hf : ∀ j, j < 24 ∨ 29 < j → ν j = μ j) (h : rl_ σ sr ln Lc μ O T) : rl_ σ sr ln Lc ν O T := by
  obtain ⟨hWF, hRK, hRL, hRO, hT, hM, hS, a, b⟩ := h
  refine ⟨hWF, ?_, ?_, ?_, ?_, ?_, ?_, a, b⟩
  · unfold am_RK
    rw [hf 1 (by decide), hf 2 (by decide), hf 3 (by decide), hf 4 (by decide), hf 5 (by decide), hf 6 (by decide)]
    exact hRK
  · unfold am_RL
    rw [hf 17 (by decide), hf 7 (by decide), hf 8 (by decide), hf 9 (by decide), hf 10 (by decide), hf 11 (by decide), hf 12 (by decide), hf 13 (by decide), hf 14 (by decide), hf 15 (by decide), hf 16 (by decide)]
    exact hRL
  · unfold am_RO
    rw [hf 19 (by decide), hf 18 (by decide)]
    exact hRO
  · unfold rl_tape
    rw [hf 20 (by decide), hf 21 (by decide)]
    exact hT
  · unfold rl_mach
    rw [hf 30 (by decide), hf 31 (by decide)]
    exact hM
  · unfold rl_shs rl_she
    rw [hf 33 (by decide), hf 34 (by decide), hf 35 (by decide), hf 36 (by decide)]
    exact hS
theorem rl_set_tau (hf : ∀ j, j < 10 ∨ 14 < j → τ j = σ j) (g : rl_set σ sr ln Lc true 20) : rl_set τ sr ln Lc true 20 :=
  rl_set_fr (hf 0 (by decide)) (hf 1 (by decide)) (hf 2 (by decide)) (hf 3 (by decide)) (hf 4 (by decide)) (hf 20 (by decide)) (hf 21 (by decide)) (hf 22 (by decide)) (hf 24 (by decide)) g
theorem rl_set_tau2 (hf : ∀ j, j < 20 ∨ 24 < j → τ j = σ j) (g : rl_set σ sr ln Lc false 10) : rl_set τ sr ln Lc false 10 :=
  rl_set_fr (hf 0 (by decide)) (hf 1 (by decide)) (hf 2 (by decide)) (hf 3 (by decide)) (hf 4 (by decide)) (hf 10 (by decide)) (hf 11 (by decide)) (hf 12 (by decide)) (hf 14 (by decide)) g
/-- workOut, with byKind told -/
theorem rl_wo0 (xs : Nat → Int32) (LL : Nat) (hwf : am_WF σ sr ln Lc) (hob : pu_ob sr ln Lc O) (hRK : am_RK σ μ) (hRL : am_RL sr ln Lc μ) (hRO : am_RO σ sr ln Lc O μ) (wo : Int32) : ∃ (ν : Nat → Nat → Int32) (N : Nat), pu_isN σ sr ln Lc false wo N ∧ (∀ k, k < 68 → ν 24 k = pu_W σ sr ln Lc false wo N k) ∧ ν 26 0 = nI N ∧ (∀ j, (j < 24 ∨ 28 < j) → ν j = μ j) ∧ ν 27 0 = am_b2 false ∧ ∀ d, am_X xs LL (d + 6) 173 [.ref 47, .int 0, .int wo] (hG σ sr ln Lc μ) none (hG σ sr ln Lc ν) := by
  obtain ⟨N, hN⟩ := pu_N hwf hob false wo
  have hi := pu_Y_inv (bk := false) (wo := wo) hwf hob (μ 24) (μ 25)
  refine ⟨_, N, hN, ?_, rfl, ?_, rfl, fun d => sp_X12_workOut_0 d hwf hRK hRL hRO wo N (fun r hr q => (pu_Y_0 hwf hob _ _ r).mp q (hN.2.2 r hr)) ((pu_Y_0 hwf hob _ _ N).mpr hN.2.1) (fun r _ => pu_okM (fun k hk => by rw [hi r k hk]; exact pu_W_bd hwf hob r k))⟩
  · intro k hk
    exact (hi (N + 1) k hk).trans (pu_stopN hN hk)
  · intro j hj
    rw [am_up_ne (by omega), am_up_ne (by omega), am_us_ne (by omega), am_us_ne (by omega), am_us_ne (by omega)]
/-- the class's sets filled, the reference's worked out -/
theorem rl_fill (xs : Nat → Int32) (LL : Nat) (h : rl_ σ sr ln Lc μ O T) : ∃ (τ ν : Nat → Nat → Int32) (N : Nat), (∀ d, am_X xs LL (d + 6) 52 [.ref 23] (hG σ sr ln Lc μ) (some (.ref 23)) (hG τ sr ln Lc μ)) ∧ (∀ d, am_X xs LL (d + 6) 173 [.ref 47, .int 0, .int (-1)] (hG τ sr ln Lc μ) none (hG τ sr ln Lc ν)) ∧ rl_ τ sr ln Lc μ O T ∧ rl_ τ sr ln Lc ν O T ∧ (∀ k, k < 68 → τ 12 k = ν 24 k) ∧ pu_bdS O (ν 24) ∧ pu_bdS O (τ 12) ∧ τ 11 0 = nI N ∧ ν 26 0 = nI N ∧ N < 1089 ∧ pu_SF τ sr ln Lc false (-1) N (τ 12) (τ 14) ∧ ν 27 0 = am_b2 false ∧ (∀ j, j < 10 ∨ 14 < j → τ j = σ j) := by
  have h' := h
  obtain ⟨hWF, hRK, hRL, hRO, hT, hM, hS, h10, h20⟩ := h'
  obtain ⟨τ, hf, t1, ⟨N, hSF, hN⟩, hfr⟩ := sp_filled_0 xs LL μ hWF (rl_ob hRO) h10
  have h5 : ∀ j, j < 5 → τ j = σ j := fun j hj => hfr j (Or.inl (by omega))
  have hSF2 := pu_SF_fr h5 hSF
  have hτ : rl_ τ sr ln Lc μ O T := rl_tau (fun j hj => hfr j (by omega)) h (Or.inr ⟨t1, N, hSF2, hN⟩) (rl_set_tau hfr h20)
  obtain ⟨ν, N2, hN2, w1, w2, w3, w4, hw⟩ := rl_wo0 xs LL hτ.1 (rl_ob hRO) hτ.2.1 hRL hτ.2.2.2.1 (-1)
  have eN : N2 = N := pu_isN_u hN2 hSF2.1
  subst eN
  have e : ∀ k, k < 68 → τ 12 k = ν 24 k := fun k hk => (hSF2.2.1 k hk).trans (w1 k hk).symm
  have hb : pu_bdS O (ν 24) := fun k hk => by rw [w1 k hk]; exact pu_W_bd (bk := false) hτ.1 (rl_ob hRO) N2 k
  exact ⟨τ, ν, N2, hf, hw, hτ, rl_nu (fun j hj => w3 j (by omega)) hτ, e, hb, fun k hk => by rw [e k hk]; exact hb k hk, hN, w2, hN2.1, hSF2, w4, hfr⟩
/-- the same by kinds -/
theorem rl_fillK (xs : Nat → Int32) (LL : Nat) (h : rl_ σ sr ln Lc μ O T) : ∃ (τ : Nat → Nat → Int32), (∀ d, am_X xs LL (d + 6) 52 [.ref 27] (hG σ sr ln Lc μ) (some (.ref 27)) (hG τ sr ln Lc μ)) ∧ rl_ τ sr ln Lc μ O T ∧ pu_bdS 8 (τ 22) ∧ ∀ ρ : Nat → Nat → Int32, rl_ ρ sr ln Lc μ O T → (∀ j, j < 5 → ρ j = τ j) → ∃ ν : Nat → Nat → Int32, (∀ d, am_X xs LL (d + 6) 173 [.ref 47, .int 1, .int (-1)] (hG ρ sr ln Lc μ) none (hG ρ sr ln Lc ν)) ∧ rl_ ρ sr ln Lc ν O T ∧ (∀ k, k < 68 → τ 22 k = ν 24 k) := by
  have h' := h
  obtain ⟨hWF, hRK, hRL, hRO, hT, hM, hS, h10, h20⟩ := h'
  obtain ⟨τ, hf, t1, ⟨N, hSF, hN⟩, hfr⟩ := sp_filled_1 xs LL μ hWF (rl_ob hRO) h20
  have h5 : ∀ j, j < 5 → τ j = σ j := fun j hj => hfr j (Or.inl (by omega))
  have hSF2 := pu_SF_fr h5 hSF
  have hτ : rl_ τ sr ln Lc μ O T := rl_tau (fun j hj => hfr j (by omega)) h (rl_set_tau2 hfr h10) (Or.inr ⟨t1, N, hSF2, hN⟩)
  refine ⟨τ, hf, hτ, fun k hk => by rw [hSF2.2.1 k hk]; exact pu_W_bd (bk := true) hτ.1 (rl_ob hRO) N k, fun ρ hρ h5ρ => ?_⟩
  obtain ⟨ν, N2, hN2, w1, w2, w3, hw⟩ := sp_workOut_1 xs LL hρ.1 (rl_ob hRO) hρ.2.1 hRL hρ.2.2.2.1 (-1)
  have eN : N2 = N := pu_isN_u (pu_isN_fr h5ρ hN2) hSF2.1
  subst eN
  exact ⟨ν, hw, rl_nu (fun j hj => w3 j (by omega)) hρ, fun k hk => (hSF2.2.1 k hk).trans (by rw [w1 k hk, pu_W_fr h5ρ])⟩
theorem op_q {y1 y2 : Nat} {vs : List Value} (hr : rl_ τ sr ln Lc ν O T) {x z : Int32} (e : x = z) (h1 : am_X xs LL 11 y1 (.ref 14 :: vs) (hG σ sr ln Lc μ) (some (.int x)) (hG τ sr ln Lc μ)) (h2 : am_X xs LL 11 y2 (.ref 47 :: vs) (hG τ sr ln Lc μ) (some (.int z)) (hG τ sr ln Lc ν)) : op_I xs LL y1 y2 vs σ sr ln Lc μ := by
  subst e
  exact ⟨x, τ, sr, ln, Lc, ν, O, T, h1, h2, hr⟩
theorem rl_kindOf (hr : rl_ τ sr ln Lc ν O T) {o : Nat} (ho : o < O) (d : Nat) : am_X xs LL (d + 1) 154 [.ref 47, .int (nI o)] (hG τ sr ln Lc ν) (some (.int (am_kf τ false o))) (hG τ sr ln Lc ν) := by
  have hL := hr.1.2.2.2.2.2.2
  have hO := hr.2.2.2.1.1
  obtain ⟨l, a1, a2, a3, a4, a5⟩ := hr.2.2.2.1.2.2.2.1 o ho
  have q := sp_X12_kindOf (xs := xs) (LL := LL) (σ := τ) (μ := ν) (sr := sr) (ln := ln) (Lc := Lc) d o l (by omega) a2 (by omega)
  rw [hr.2.2.1.2.2.2.2.1 l a1, ← a5] at q
  exact q
theorem rl_kpl (hr : rl_ τ sr ln Lc ν O T) {p : Nat} (hp : p < 16) : am_pl 8 (am_kf τ false p) := hr.1.2.2.2.1 p hp
theorem rl_wab (hr : rl_ τ sr ln Lc ν O T) : am_wab (ν 1) := by rw [hr.2.1.1]; exact hr.1.1
theorem op_holds (h : rl_ σ sr ln Lc μ O T) (n : Int32) : op_I xs LL 98 174 [.int n] σ sr ln Lc μ := by
  cases e : am_in n 20 with
  | false => exact op_same h (-2) (sp_X11_holds_bad 8 n e) (sp_X12_holds_bad 8 n e)
  | true =>
    obtain ⟨n, hn, rfl⟩ := am_in_nI e
    obtain ⟨τ, ν, N, hf, hw, hr0, hr, eq, hb, hb2, eN, eN2, hN, hSF, h27, hfr⟩ := rl_fill xs LL h
    exact op_q hr (eq n (by omega)) (sp_X11_holds_ok 4 n hn hf) (sp_X12_holds_ok 4 n hn hw)
theorem op_field (h : rl_ σ sr ln Lc μ O T) (o f : Int32) : op_I xs LL 99 175 [.int o, .int f] σ sr ln Lc μ := by
  have hO := h.2.2.2.1
  cases e : am_in o O with
  | false => exact op_same h (-2) (sp_X11_field_bad1 8 hO.2.1 hO.1 o f e) (sp_X12_field_bad1 8 hO.2.2.1 hO.1 o f e)
  | true =>
    obtain ⟨o, ho, rfl⟩ := am_in_nI e
    cases e3 : am_in f 3 with
    | false => exact op_same h (-2) (sp_X11_field_bad2 8 hO.2.1 hO.1 o f ho e3) (sp_X12_field_bad2 8 hO.2.2.1 hO.1 o f ho e3)
    | true =>
      obtain ⟨f, hf3, rfl⟩ := am_in_nI e3
      obtain ⟨τ, ν, N, hf, hw, hr0, hr, eq, hb, hb2, eN, eN2, hN, hSF, h27, hfr⟩ := rl_fill xs LL h
      exact op_q hr (eq (20 + 3 * o + f) (by have := hO.1; omega)) (sp_X11_field_ok 4 hO.2.1 hO.1 o f ho hf3 hf) (sp_X12_field_ok 4 hO.2.2.1 hO.1 o f ho hf3 hw)
theorem op_still (h : rl_ σ sr ln Lc μ O T) : op_I xs LL 100 176 [] σ sr ln Lc μ := by
  obtain ⟨τ, ν, N, hf, hw, hr0, hr, eq, hb, hb2, eN, eN2, hN, hSF, h27, hfr⟩ := rl_fill xs LL h
  exact op_q hr (eN.trans eN2.symm) (sp_X11_still 4 hf) (sp_X12_still 4 hw)
theorem op_byKinds (h : rl_ σ sr ln Lc μ O T) (n : Int32) : op_I xs LL 102 178 [.int n] σ sr ln Lc μ := by
  cases e : am_in n 20 with
  | false => exact op_same h (-2) (sp_X11_byKinds_bad 8 n e) (sp_X12_byKinds_bad 8 n e)
  | true =>
    obtain ⟨n, hn, rfl⟩ := am_in_nI e
    obtain ⟨τ, hf, hτ, hb, hx⟩ := rl_fillK xs LL h
    obtain ⟨ν, hw, hr, eq⟩ := hx τ hτ (fun _ _ => rfl)
    exact op_q hr (eq n (by omega)) (sp_X11_byKinds_ok 4 n hn hf) (sp_X12_byKinds_ok 4 n hn hw)
theorem op_same_ (h : rl_ σ sr ln Lc μ O T) (a b : Int32) : op_I xs LL 109 188 [.int a, .int b] σ sr ln Lc μ := by
  cases ea : am_in a 20 with
  | false => exact op_same h (-2) (sp_X11_same_bad1 8 a b ea) (sp_X12_same_bad1 8 a b ea)
  | true =>
    obtain ⟨a, ha, rfl⟩ := am_in_nI ea
    cases eb : am_in b 20 with
    | false => exact op_same h (-2) (sp_X11_same_bad2 8 a b ha eb) (sp_X12_same_bad2 8 a b ha eb)
    | true =>
      obtain ⟨b, hb', rfl⟩ := am_in_nI eb
      obtain ⟨τ, ν, N, hf, hw, hr0, hr, eq, hb, hb2, eN, eN2, hN, hSF, h27, hfr⟩ := rl_fill xs LL h
      have hO := h.2.2.2.1.1
      exact op_q hr (by rw [eq a (by omega), eq b (by omega)]) (sp_X11_same_ok 4 a b ha hb' (rl_bd16 (hb2 a (by omega)) hO) hf) (sp_X12_same_ok 4 a b ha hb' (rl_bd16 (hb a (by omega)) hO) hw)
theorem op_cast (h : rl_ σ sr ln Lc μ O T) (q : Int32) : op_I xs LL 105 183 [.int q] σ sr ln Lc μ := by
  have hL := h.1.2.2.2.2.2.2
  have hsr := h.1.2.2.2.2.1
  cases e : am_in q Lc with
  | false => exact op_same h (-2) (sp_X11_cast_bad 9 q e hL) (sp_X12_cast_bad 8 h.2.2.1.1 hL q e)
  | true =>
    obtain ⟨q, hq, rfl⟩ := am_in_nI e
    have h7 := h.2.2.1.2.1 q hq
    by_cases hs : sr q = 1
    · obtain ⟨τ, ν, N, hf, hw, hr0, hr, eq, hb, hb2, eN, eN2, hN, hSF, h27, hfr⟩ := rl_fill xs LL h
      have hwl := h.1.2.2.2.2.2.1 q hq
      obtain ⟨b, hb20, h1⟩ := hwl.2.2.1 (by omega)
      have hO := hr.2.2.2.1.1
      refine op_q hr ?_ (sp_X11_cast_ok 4 q hq hL hs hb20 h1 hr.1.1 (fun p hp _ => rl_kpl hr hp) hf) (sp_X12_cast_ok 4 h.2.2.1.1 hL q hq (by rw [h7, hs]; rfl) hb20 ((hr.2.2.1.2.2.2.1 q hq).trans h1) (hr.2.2.1.2.2.2.2.1 q hq) (rl_wab hr) (am_kf τ false) (fun o ho hbit => ⟨rl_kpl hr ho, fun d => ?_⟩) hw)
      · rw [eq b (by omega), hr.2.1.1]
      · have ho2 : o < O := pu_bd_hb (hb b (by omega)) (by omega) (decide_eq_true hbit)
        exact sp_X12_kindFor (bk := false) d o hL hr.2.2.2.1 hr.2.2.1 h27 ho2
    · exact op_same h (-3) (sp_X11_cast_state 9 q hq hL hsr hs) (sp_X12_cast_state 8 h.2.2.1.1 hL q hq (by rw [h7]; exact fun g => hs (nI_s4 (hsr q hq) g)))
theorem rl_ai {kf ab ow : Nat → Int32} {m : Int32} (hO : O ≤ 16) (hm : pu_bd O m) (n : Nat) : am_it (pu_aiS kf ab ow m n) 0 16 = am_it (pu_aiS kf ab ow m n) 0 O := by
  refine rl_itO hO (fun i b h1 h2 => ?_)
  unfold pu_aiS
  rw [rl_hbf hm h1 (by omega)]
  rfl
theorem op_aims (h : rl_ σ sr ln Lc μ O T) (q : Int32) : op_I xs LL 106 185 [.int q] σ sr ln Lc μ := by
  have hL := h.1.2.2.2.2.2.2
  have hsr := h.1.2.2.2.2.1
  cases e : am_in q Lc with
  | false => exact op_same h (-2) (sp_X11_aims_bad 9 q e hL) (sp_X12_aims_bad 8 h.2.2.1.1 hL q e)
  | true =>
    obtain ⟨q, hq, rfl⟩ := am_in_nI e
    have h7 := h.2.2.1.2.1 q hq
    by_cases hs : sr q = 4
    · obtain ⟨τ, ν, N, hf, hw, hr0, hr, eq, hb, hb2, eN, eN2, hN, hSF, h27, hfr⟩ := rl_fill xs LL h
      have hwl := h.1.2.2.2.2.2.1 q hq
      obtain ⟨b, hb20, h1⟩ := hwl.2.2.1 (by omega)
      obtain ⟨n, hn3, hn⟩ := hwl.2.2.2.2.1 (by omega) (by omega)
      have hO := hr.2.2.2.1
      refine op_q hr ?_ (sp_X11_aims_ok 4 q hq hL hs hb20 h1 hn3 hn hr.1.1 (fun p hp _ => rl_kpl hr hp) hf) (sp_X12_aims_ok 4 h.2.2.1.1 hL q hq (by rw [h7, hs]; rfl) hO.2.2.1 hO.1 hb20 ((hr.2.2.1.2.2.2.1 q hq).trans h1) hn3 ((hr.2.2.1.2.2.2.2.1 q hq).trans hn) (rl_wab hr) (am_kf τ false) (fun o ho => ⟨rl_kpl hr (by have := hO.1; omega), fun d => rl_kindOf hr ho d⟩) hw)
      rw [eq b (by omega), hr.2.1.1, hr.2.1.2.1, rl_ai hO.1 (hb b (by omega))]
    · exact op_same h (-3) (sp_X11_aims_state 9 q hq hL hsr hs) (sp_X12_aims_state 8 h.2.2.1.1 hL q hq (by rw [h7]; exact fun g => hs (nI_s4 (hsr q hq) g)))
theorem op_dead (h : rl_ σ sr ln Lc μ O T) : op_I xs LL 107 186 [] σ sr ln Lc μ := by
  have hL := h.1.2.2.2.2.2.2
  have hsr := h.1.2.2.2.2.1
  have hwl := h.1.2.2.2.2.2.1
  obtain ⟨τ, ν, N, hf, hw, hr0, hr, eq, hb, hb2, eN, eN2, hN, hSF, h27, hfr⟩ := rl_fill xs LL h
  have hO := hr.2.2.2.1
  have hok : am_okW (am_kf τ false) (τ 12) := fun _ _ p hp _ => rl_kpl hr hp
  refine op_q hr ?_ (sp_X11_dead 4 hL hsr hwl hr.1.1 hok hf) (sp_X12_dead 4 hL hsr hwl hr.2.2.1 hO.2.2.1 hO.1 (rl_wab hr) (am_kf τ false) (fun o ho => ⟨rl_kpl hr (by have := hO.1; omega), fun d => rl_kindOf hr ho d⟩) hw)
  congr 2
  have e40 := pu_it_stop (f := pu_deS (am_kf τ false) (τ 1) (τ 2) (τ 12) sr ln Lc) (a := 0) (n := Lc) (fun i b hi => if_neg (by omega)) (40 - Lc)
  rw [show Lc + (40 - Lc) = 40 by omega] at e40
  rw [e40]
  refine pu_it_congr Lc (fun i b hi => ?_)
  unfold pu_deS pu_deM
  rw [if_pos hi]
  by_cases hs : sr i = 4
  · rw [if_pos hs, if_pos hs]
    have e1 : pu_aiV (am_kf τ false) (τ 1) (τ 2) (τ 12) (ln i) = pu_aiVO (am_kf τ false) (ν 1) (ν 2) (ν 24) (ln i) O := by
      unfold pu_aiV pu_aiVO
      have hpl : am_pl 68 (ln i 1) := am_pl_mono (hwl i hi).2.1 (by decide)
      rw [pu_hat_congr eq hpl, hr.2.1.1, hr.2.1.2.1, rl_ai hO.1 (pu_bd_hat hb hpl)]
    rw [e1]
  · rw [if_neg hs, if_neg hs]
end OQ
