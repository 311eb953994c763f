/-! what class and reference agree on between two calls -/
def rl_tape (σ μ : Nat → Nat → Int32) (T : Nat) : Prop := T ≤ 20 ∧ σ 8 0 = nI T ∧ μ 21 0 = nI T ∧ (∀ i, i < T → μ 20 i = σ 7 i) ∧ (∀ i, i < T → ∃ c, c < 256 ∧ σ 7 i = nI c)
def rl_mach (σ μ : Nat → Nat → Int32) : Prop := ∀ n, n < 20 → μ 30 n = σ 40 n ∧ μ 31 n = σ 41 n
def rl_she (σ μ : Nat → Nat → Int32) (s : Nat) : Prop := ((σ (51 + 3 * s) 0 = -1 ∧ μ 33 s = 0) ∨ ∃ q, q < 3 ∧ σ (51 + 3 * s) 0 = nI q ∧ μ 33 s = 1 ∧ μ 34 s = nI q) ∧ (∃ z, z ≤ 40 ∧ σ (52 + 3 * s) 0 = nI z ∧ μ 35 s = nI z) ∧ ∀ i, i < 40 → μ 36 (40 * s + i) = σ (50 + 3 * s) i
def rl_shs (σ μ : Nat → Nat → Int32) : Prop := rl_she σ μ 0 ∧ rl_she σ μ 1 ∧ rl_she σ μ 2 ∧ rl_she σ μ 3
def rl_set (σ : Nat → Nat → Int32) (sr : Nat → Nat) (ln : Nat → Nat → Int32) (Lc : Nat) (bk : Bool) (b : Nat) : Prop := σ b 0 = 0 ∨ σ b 0 = 1 ∧ ∃ N, pu_SF σ sr ln Lc bk (-1) N (σ (b + 2)) (σ (b + 4)) ∧ σ (b + 1) 0 = nI N
def rl_ (σ : Nat → Nat → Int32) (sr : Nat → Nat) (ln : Nat → Nat → Int32) (Lc : Nat) (μ : Nat → Nat → Int32) (O T : Nat) : Prop := am_WF σ sr ln Lc ∧ am_RK σ μ ∧ am_RL sr ln Lc μ ∧ am_RO σ sr ln Lc O μ ∧ rl_tape σ μ T ∧ rl_mach σ μ ∧ rl_shs σ μ ∧ rl_set σ sr ln Lc false 10 ∧ rl_set σ sr ln Lc true 20
/-- a call of class and reference with one answer, and both agree again -/
def op_I (xs : Nat → Int32) (LL : Nat) (y1 y2 : Nat) (vs : List Value) (σ : Nat → Nat → Int32) (sr : Nat → Nat) (ln : Nat → Nat → Int32) (Lc : Nat) (μ : Nat → Nat → Int32) : Prop := ∃ (x : Int32) (σ2 : Nat → Nat → Int32) (sr2 : Nat → Nat) (ln2 : Nat → Nat → Int32) (Lc2 : Nat) (μ2 : Nat → Nat → Int32) (O2 T2 : Nat), am_X xs LL 11 y1 (.ref 14 :: vs) (hG σ sr ln Lc μ) (some (.int x)) (hG σ2 sr2 ln2 Lc2 μ) ∧ am_X xs LL 11 y2 (.ref 47 :: vs) (hG σ2 sr2 ln2 Lc2 μ) (some (.int x)) (hG σ2 sr2 ln2 Lc2 μ2) ∧ rl_ σ2 sr2 ln2 Lc2 μ2 O2 T2
def op_J (xs : Nat → Int32) (LL : Nat) (y1 y2 : Nat) (vs : List Value) (σ : Nat → Nat → Int32) (sr : Nat → Nat) (ln : Nat → Nat → Int32) (Lc : Nat) (μ : Nat → Nat → Int32) : Prop := ∃ (x : Int64) (σ2 : Nat → Nat → Int32) (sr2 : Nat → Nat) (ln2 : Nat → Nat → Int32) (Lc2 : Nat) (μ2 : Nat → Nat → Int32) (O2 T2 : Nat), am_X xs LL 11 y1 (.ref 14 :: vs) (hG σ sr ln Lc μ) (some (.long x)) (hG σ2 sr2 ln2 Lc2 μ) ∧ am_X xs LL 11 y2 (.ref 47 :: vs) (hG σ2 sr2 ln2 Lc2 μ) (some (.long x)) (hG σ2 sr2 ln2 Lc2 μ2) ∧ rl_ σ2 sr2 ln2 Lc2 μ2 O2 T2
theorem rl_pl {x : Int32} {n : Nat} (h : am_in1 x n = true) : am_pl n x := by
  unfold am_in1 at h
  have h := of_decide_eq_true h
  by_cases h0 : x.toInt = -1
  · exact Or.inl (Int32.toInt_inj.mp (h0.trans (by decide)))
  · obtain ⟨k, hk, e⟩ := am_in_nI (am_in_iff.mpr ⟨by omega, h.2⟩)
    exact Or.inr ⟨k, hk, e⟩
theorem rl_sub5 {σ τ : Nat → Nat → Int32} (h0 : τ 0 = σ 0) (h1 : τ 1 = σ 1) (h2 : τ 2 = σ 2) (h3 : τ 3 = σ 3) (h4 : τ 4 = σ 4) : ∀ j, j < 5 → τ j = σ j := by
  intro j hj
  match j, hj with
  | 0, _ => exact h0
  | 1, _ => exact h1
  | 2, _ => exact h2
  | 3, _ => exact h3
  | 4, _ => exact h4
section RL
variable {xs : Nat → Int32} {LL : Nat} {σ τ μ : Nat → Nat → Int32} {sr : Nat → Nat} {ln : Nat → Nat → Int32} {Lc O T : Nat}
theorem pu_SF_fr (h : ∀ j, j < 5 → τ j = σ j) {bk : Bool} {wo : Int32} {N : Nat} {H F : Nat → Int32} (g : pu_SF σ sr ln Lc bk wo N H F) : pu_SF τ sr ln Lc bk wo N H F := by
  obtain ⟨g1, g2, g3⟩ := g
  refine ⟨pu_isN_fr (fun j hj => (h j hj).symm) g1, ?_, ?_⟩
  · rw [pu_W_fr h]; exact g2
  · unfold pu_F at g3 ⊢
    rw [pu_W_fr h]; exact g3
theorem rl_set_fr {bk : Bool} {b : Nat} (h0 : τ 0 = σ 0) (h1 : τ 1 = σ 1) (h2 : τ 2 = σ 2) (h3 : τ 3 = σ 3) (h4 : τ 4 = σ 4) (k0 : τ b = σ b) (k1 : τ (b + 1) = σ (b + 1)) (k2 : τ (b + 2) = σ (b + 2)) (k4 : τ (b + 4) = σ (b + 4)) (g : rl_set σ sr ln Lc bk b) : rl_set τ sr ln Lc bk b := by
  unfold rl_set at g ⊢
  rw [k0, k1, k2, k4]
  rcases g with g | ⟨g1, N, g2, g3⟩
  · exact Or.inl g
  · exact Or.inr ⟨g1, N, pu_SF_fr (rl_sub5 h0 h1 h2 h3 h4) g2, g3⟩
theorem rl_ob (h : am_RO σ sr ln Lc O μ) : pu_ob sr ln Lc O := by
  obtain ⟨h1, -, -, -, h5⟩ := h
  refine ⟨h1, fun l hl hs => ?_⟩
  obtain ⟨o, ho, e, -⟩ := h5 l hl hs
  exact ⟨o, ho, e⟩
/-- nothing changed -/
theorem op_same {y1 y2 : Nat} {vs : List Value} (h : rl_ σ sr ln Lc μ O T) (x : Int32) (h1 : am_X xs LL 11 y1 (.ref 14 :: vs) (hG σ sr ln Lc μ) (some (.int x)) (hG σ sr ln Lc μ)) (h2 : am_X xs LL 11 y2 (.ref 47 :: vs) (hG σ sr ln Lc μ) (some (.int x)) (hG σ sr ln Lc μ)) : op_I xs LL y1 y2 vs σ sr ln Lc μ := ⟨x, σ, sr, ln, Lc, μ, O, T, h1, h2, h⟩
theorem op_same2 {y1 y2 : Nat} {vs : List Value} (h : rl_ σ sr ln Lc μ O T) {x z : Int32} (e : x = z) (h1 : am_X xs LL 11 y1 (.ref 14 :: vs) (hG σ sr ln Lc μ) (some (.int x)) (hG σ sr ln Lc μ)) (h2 : am_X xs LL 11 y2 (.ref 47 :: vs) (hG σ sr ln Lc μ) (some (.int z)) (hG σ sr ln Lc μ)) : op_I xs LL y1 y2 vs σ sr ln Lc μ := by
  subst e
  exact op_same h x h1 h2
theorem op_kind (h : rl_ σ sr ln Lc μ O T) (a : Int32) : op_I xs LL 88 145 [.int a] σ sr ln Lc μ := by
  have h' := h
  obtain ⟨hWF, hRK, hRL, hRO, hT, hM, hS, h10, h20⟩ := h'
  obtain ⟨e1, e2, e4, e5, e6, K, hK8, hK3, hK5⟩ := hRK
  by_cases ha : a = -1 ∨ am_in a K = true
  · by_cases hk : K < 8
    · have q := sp_X11_kind_ok (xs := xs) (LL := LL) (sr := sr) (ln := ln) (Lc := Lc) (μ := μ) 8 hK5 hK8 a ha hk
      rw [hK5, nI_up] at q
      have q2 := fun τ : Nat → Nat → Int32 => sp_X12_kind_ok (xs := xs) (LL := LL) (σ := τ) (sr := sr) (ln := ln) (Lc := Lc) 8 hK3 hK8 a ha hk
      rw [hK3, nI_up] at q2
      refine ⟨_, _, _, _, _, _, O, T, q, q2 _, ?_, ⟨?_, e2, e4, e5, e6, K + 1, hk, rfl, rfl⟩, hRL, hRO, hT, hM, hS, Or.inl rfl, Or.inl rfl⟩
      · refine ⟨?_, hWF.2⟩
        intro k hk8
        show upd (σ 1) K a k = -1 ∨ ∃ j, j < k ∧ upd (σ 1) K a k = nI j
        by_cases hkK : k = K
        · rw [hkK, pu_upl]
          rcases ha with ha | ha
          · exact Or.inl ha
          · exact Or.inr (am_in_nI ha)
        · rw [pu_upn hkK]
          exact hWF.1 k hk8
      · show upd (μ 1) K a = upd (σ 1) K a
        rw [e1]
    · exact op_same h (-4) (sp_X11_kind_full 8 hK5 hK8 a ha (by omega)) (sp_X12_kind_full 8 hK3 hK8 a ha (by omega))
  · have h1 : ¬ a = -1 := fun q => ha (Or.inl q)
    have h2 : am_in a K = false := by
      cases e : am_in a K with
      | true => exact absurd (Or.inr e) ha
      | false => rfl
    exact op_same h (-2) (sp_X11_kind_bad 8 hK5 hK8 a h1 h2) (sp_X12_kind_bad 8 hK3 hK8 a h1 h2)
theorem rl_ff {a b : Bool} (h : a = false ∨ b = false) : (a && b) = false := by
  rcases h with rfl | rfl
  · rfl
  · exact Bool.and_false _
theorem op_has (h : rl_ σ sr ln Lc μ O T) (k a f : Int32) : op_I xs LL 89 146 [.int k, .int a, .int f] σ sr ln Lc μ := by
  have h' := h
  obtain ⟨hWF, hRK, hRL, hRO, hT, hM, hS, h10, h20⟩ := h'
  obtain ⟨e1, e2, e4, e5, e6, K, hK8, hK3, hK5⟩ := hRK
  cases hb : (am_in k K && (am_in a 3 && am_in1 f 6)) with
  | false => exact op_same h (-5) (sp_X11_has_bad 8 hK5 hK8 k a f hb) (sp_X12_has_bad 8 hK3 hK8 k a f hb)
  | true =>
    obtain ⟨hk0, hb⟩ := (Bool.and_eq_true _ _).mp hb
    obtain ⟨ha0, hf⟩ := (Bool.and_eq_true _ _).mp hb
    obtain ⟨k, hk, rfl⟩ := am_in_nI hk0
    obtain ⟨a, ha, rfl⟩ := am_in_nI ha0
    have q2 := fun τ : Nat → Nat → Int32 => sp_X12_has_ok (xs := xs) (LL := LL) (σ := τ) (sr := sr) (ln := ln) (Lc := Lc) 8 hK3 hK8 k a f hk ha hf
    rw [e2] at q2
    refine ⟨_, _, _, _, _, _, O, T, sp_X11_has_ok 8 hK5 hK8 k a f hk ha hf, q2 _, ⟨hWF.1, ?_, hWF.2.2⟩, ⟨e1, rfl, e4, e5, e6, K, hK8, hK3, hK5⟩, hRL, hRO, hT, hM, hS, Or.inl rfl, Or.inl rfl⟩
    intro p hp
    show am_pl 6 (upd (σ 2) (3 * k + a) f p)
    by_cases hpk : p = 3 * k + a
    · rw [hpk, pu_upl]; exact rl_pl hf
    · rw [pu_upn hpk]; exact hWF.2.1 p hp
theorem op_aim (h : rl_ σ sr ln Lc μ O T) (k a : Int32) : op_I xs LL 90 148 [.int k, .int a] σ sr ln Lc μ := by
  have h' := h
  obtain ⟨hWF, hRK, hRL, hRO, hT, hM, hS, h10, h20⟩ := h'
  obtain ⟨e1, e2, e4, e5, e6, K, hK8, hK3, hK5⟩ := hRK
  cases hb : (am_in k K && am_in a 3) with
  | false => exact op_same h (-2) (sp_X11_aim_bad 8 hK5 hK8 k a hb) (sp_X12_aim_bad 8 hK3 hK8 k a hb)
  | true =>
    obtain ⟨hk0, ha0⟩ := (Bool.and_eq_true _ _).mp hb
    obtain ⟨k, hk, rfl⟩ := am_in_nI hk0
    obtain ⟨a, ha, rfl⟩ := am_in_nI ha0
    exact op_same2 h (by rw [e1, e2]) (sp_X11_aim_ok 8 hK5 hK8 hWF.1 k a hk ha) (sp_X12_aim_ok 8 hK3 hK8 (by rw [e1]; exact hWF.1) k a hk ha)
theorem op_under (h : rl_ σ sr ln Lc μ O T) (k o : Int32) : op_I xs LL 92 151 [.int k, .int o] σ sr ln Lc μ := by
  have h' := h
  obtain ⟨hWF, hRK, hRL, hRO, hT, hM, hS, h10, h20⟩ := h'
  obtain ⟨e1, e2, e4, e5, e6, K, hK8, hK3, hK5⟩ := hRK
  cases hb : (am_in k K && am_in o K) with
  | false => exact op_same h (-2) (sp_X11_under_bad 9 hK5 hK8 k o hb) (sp_X12_under_bad 8 hK3 hK8 k o hb)
  | true =>
    obtain ⟨hk0, ho0⟩ := (Bool.and_eq_true _ _).mp hb
    obtain ⟨k, hk, rfl⟩ := am_in_nI hk0
    obtain ⟨o, ho, rfl⟩ := am_in_nI ho0
    exact op_same2 h (by rw [e1]) (sp_X11_under_ok 9 hK5 hK8 hWF.1 k o hk ho) (sp_X12_under_ok 8 hK3 hK8 (by rw [e1]; exact hWF.1) k o hk ho)
theorem op_names (h : rl_ σ sr ln Lc μ O T) (f p q t : Int32) : op_I xs LL 91 149 [.int f, .int p, .int q, .int t] σ sr ln Lc μ := by
  have h' := h
  obtain ⟨hWF, hRK, hRL, hRO, hT, hM, hS, h10, h20⟩ := h'
  obtain ⟨e1, e2, e4, e5, e6, K, hK8, hK3, hK5⟩ := hRK
  cases hb : (am_in f 6 && (am_in1 p 20 && (am_in1 q 20 && am_in1 t 20))) with
  | false => exact op_same h (-2) (sp_X11_names_bad 8 f p q t hb) (sp_X12_names_bad 9 f p q t hb)
  | true =>
    obtain ⟨hf0, hb⟩ := (Bool.and_eq_true _ _).mp hb
    obtain ⟨hp, hb⟩ := (Bool.and_eq_true _ _).mp hb
    obtain ⟨hq, ht⟩ := (Bool.and_eq_true _ _).mp hb
    obtain ⟨f, hf, rfl⟩ := am_in_nI hf0
    refine ⟨_, _, _, _, _, _, O, T, sp_X11_names_ok 8 f hf p q t hp hq ht, sp_X12_names_ok 9 f p q t hf hp hq ht, ⟨hWF.1, hWF.2.1, ?_, hWF.2.2.2⟩, ⟨e1, e2, ?_, ?_, ?_, K, hK8, hK3, hK5⟩, hRL, hRO, hT, hM, hS, Or.inl rfl, Or.inl rfl⟩
    · intro j hj
      show am_pl 20 (upd (upd (upd (σ 3) ((3 * f) + 0) p) ((3 * f) + 1) q) ((3 * f) + 2) t j)
      by_cases j2 : j = 3 * f + 2
      · rw [j2, pu_upl]; exact rl_pl ht
      · rw [pu_upn j2]
        by_cases j1 : j = 3 * f + 1
        · rw [j1, pu_upl]; exact rl_pl hq
        · rw [pu_upn j1]
          by_cases j0 : j = 3 * f + 0
          · rw [j0, pu_upl]; exact rl_pl hp
          · rw [pu_upn j0]; exact hWF.2.2.1 j hj
    · intro j hj
      show upd (μ 4) f p j = upd (upd (upd (σ 3) ((3 * f) + 0) p) ((3 * f) + 1) q) ((3 * f) + 2) t (3 * j + 0)
      by_cases hjf : j = f
      · subst hjf
        rw [pu_upl, pu_upn (by omega), pu_upn (by omega), pu_upl]
      · rw [pu_upn hjf, pu_upn (by omega), pu_upn (by omega), pu_upn (by omega)]
        exact e4 j hj
    · intro j hj
      show upd (μ 5) f q j = upd (upd (upd (σ 3) ((3 * f) + 0) p) ((3 * f) + 1) q) ((3 * f) + 2) t (3 * j + 1)
      by_cases hjf : j = f
      · subst hjf
        rw [pu_upl, pu_upn (by omega), pu_upl]
      · rw [pu_upn hjf, pu_upn (by omega), pu_upn (by omega), pu_upn (by omega)]
        exact e5 j hj
    · intro j hj
      show upd (μ 6) f t j = upd (upd (upd (σ 3) ((3 * f) + 0) p) ((3 * f) + 1) q) ((3 * f) + 2) t (3 * j + 2)
      by_cases hjf : j = f
      · subst hjf
        rw [pu_upl, pu_upl]
      · rw [pu_upn hjf, pu_upn (by omega), pu_upn (by omega), pu_upn (by omega)]
        exact e6 j hj
end RL
