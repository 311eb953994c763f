/-! closures: leaves, melted -/
theorem rl_orlin {f : Nat → Int32 → Int32} {g : Nat → Int32} {a : Int32} {n : Nat} (h : ∀ i b, i < n → f i b = b ||| g i) : am_it f a n = a ||| am_it f 0 n := by
  apply rl_ext
  intro p _
  rw [b_or, Bool.or_eq_true, rl_orit n h, rl_orit n h, b_0]
  constructor
  · rintro (q | q)
    · exact Or.inl q
    · exact Or.inr (Or.inr q)
  · rintro (q | q | q)
    · exact Or.inl q
    · cases q
    · exact Or.inr q
theorem rl_itd {α : Type} {f : Nat → α → α} {a : α} (h : ∀ i j b, f i b = f j b) {k : Nat} (hk : am_it f a (k + 1) = am_it f a k) : ∀ d, am_it f a (k + d) = am_it f a k := by
  intro d
  induction d with
  | zero => rfl
  | succ d ih =>
    show f (k + d) (am_it f a (k + d)) = _
    rw [ih, h (k + d) k]
    exact hk
/-- a growing step comes to rest -/
theorem rl_close {M : Nat} (hM : M ≤ 32) {G : Int32 → Int32} (hinc : ∀ a p, p < 32 → bt a p = true → bt (G a) p = true) (hbd : ∀ a, pu_bd M a → pu_bd M (G a)) {B : Int32} (hB : pu_bd M B) : ∃ k, k + pu_cn B M ≤ M ∧ (∀ r, r < k → ¬ am_it (fun _ a => G a) B (r + 1) = am_it (fun _ a => G a) B r) ∧ am_it (fun _ a => G a) B (k + 1) = am_it (fun _ a => G a) B k := by
  have hb : ∀ r, pu_bd M (am_it (fun _ a => G a) B r) := by
    intro r
    induction r with
    | zero => exact hB
    | succ r ih => exact hbd _ ih
  have hgrow : ∀ r, ¬ am_it (fun _ a => G a) B (r + 1) = am_it (fun _ a => G a) B r → pu_cn (am_it (fun _ a => G a) B r) M < pu_cn (am_it (fun _ a => G a) B (r + 1)) M := by
    intro r hne
    refine pu_cn_lt M (fun i hi h => hinc _ i (by omega) h) ?_
    apply Classical.byContradiction
    intro hx
    apply hne
    apply rl_ext
    intro p hp
    constructor
    · intro h
      have hpM := hb (r + 1) p hp h
      cases e : bt (am_it (fun _ a => G a) B r) p with
      | true => rfl
      | false => exact absurd ⟨p, hpM, e, h⟩ hx
    · intro h
      exact hinc _ p hp h
  have key : ∀ n, (∀ r, r < n → ¬ am_it (fun _ a => G a) B (r + 1) = am_it (fun _ a => G a) B r) → n + pu_cn B M ≤ pu_cn (am_it (fun _ a => G a) B n) M := by
    intro n
    induction n with
    | zero => intro _; show 0 + pu_cn B M ≤ pu_cn B M; omega
    | succ n ih =>
      intro h
      have h1 := ih (fun r hr => h r (by omega))
      have h2 := hgrow n (h n (by omega))
      omega
  rcases pu_first (fun r => ¬ am_it (fun _ a => G a) B (r + 1) = am_it (fun _ a => G a) B r) (fun r => Classical.em _) (M + 1) with hall | ⟨k, hk, h1, h2⟩
  · exfalso
    have h1 := key (M + 1) hall
    have h2 := pu_cn_le (am_it (fun _ a => G a) B (M + 1)) M
    omega
  · refine ⟨k, ?_, h2, Classical.byContradiction h1⟩
    have h3 := key k h2
    have h4 := pu_cn_le (am_it (fun _ a => G a) B k) M
    omega
theorem rl_cn1 {v : Int32} {M p : Nat} (hp : p < M) (h : bt v p = true) : 1 ≤ pu_cn v M := by
  have e : pu_cn 0 M < pu_cn v M := pu_cn_lt M (fun i _ q => by rw [b_0] at q; cases q) ⟨p, hp, b_0 p, h⟩
  omega
theorem rl_ex {p : Nat → Bool} : ∀ r i, pu_ex p r i = true ↔ ∃ j, i ≤ j ∧ j < i + r ∧ p j = true := by
  intro r
  induction r with
  | zero => intro i; exact ⟨fun h => (by cases h), fun ⟨j, h1, h2, _⟩ => by omega⟩
  | succ r ih =>
    intro i
    show (p i || pu_ex p r (i + 1)) = true ↔ _
    rw [Bool.or_eq_true, ih]
    constructor
    · rintro (h | ⟨j, h1, h2, h3⟩)
      · exact ⟨i, Nat.le_refl _, by omega, h⟩
      · exact ⟨j, by omega, by omega, h3⟩
    · rintro ⟨j, h1, h2, h3⟩
      by_cases e : j = i
      · subst e; exact Or.inl h3
      · exact Or.inr ⟨j, by omega, by omega, h3⟩
section LVS
variable {xs : Nat → Int32} {LL : Nat} {σ τ ρ μ ν κ : Nat → Nat → Int32} {sr : Nat → Nat} {ln lm : Nat → Nat → Int32} {Lc O T : Nat}
def rl_hfg (H : Nat → Int32) (m : Int32) (p : Nat) : Int32 := bif am_hb m p then H (20 + 3 * p + 0) ||| H (20 + 3 * p + 1) ||| H (20 + 3 * p + 2) else 0
theorem rl_hfS (H : Nat → Int32) (m : Int32) (p : Nat) (b : Int32) : pu_hfS H m p b = b ||| rl_hfg H m p := by
  unfold pu_hfS rl_hfg
  cases am_hb m p with
  | true => rw [cond_true, cond_true, pu_or_assoc, pu_or_assoc, pu_or_assoc]
  | false => rw [cond_false, cond_false, pu_or_zero]
theorem rl_hf16 {H : Nat → Int32} {m : Int32} {a : Int32} (hO : O ≤ 16) (hm : pu_bd O m) : am_it (pu_hfS H m) a 16 = am_it (pu_hfS H m) a O := by
  refine rl_itO hO (fun i b h1 h2 => ?_)
  unfold pu_hfS
  rw [rl_hbf hm h1 (by omega)]
  rfl
theorem rl_lgF (H : Nat → Int32) (O : Nat) (a : Int32) : pu_lgF H O a = a ||| am_it (pu_hfS H a) 0 O := rl_orlin (g := rl_hfg H a) (fun i b _ => rl_hfS H a i b)
theorem rl_lgbd {H : Nat → Int32} (hO : O ≤ 16) (hH : pu_bdS O H) {a : Int32} (ha : pu_bd O a) : pu_bd O (pu_lgF H O a) := by
  refine pu_it_ind (P := pu_bd O) ha O (fun i b hi hb => ?_)
  unfold pu_hfS
  cases am_hb a i with
  | false => exact hb
  | true => exact pu_bd_or (pu_bd_or (pu_bd_or hb (hH _ (by omega))) (hH _ (by omega))) (hH _ (by omega))
/-- what leaves by itself, by the lines and by the objects -/
theorem rl_lbase (h : rl_ σ sr ln Lc μ O T) {H K : Nat → Int32} (eq : ∀ k, k < 68 → H k = K k) (mk : Nat → Nat) (hmk : ∀ o, o < O → μ 18 o = nI (mk o) ∧ mk o < Lc ∧ sr (mk o) = 5 ∧ ln (mk o) 7 = nI o) : am_it (pu_leS sr ln Lc H) 0 40 = am_it (pu_loS ln K mk Lc) 0 O := by
  have hL := h.1.2.2.2.2.2.2
  have hwl := h.1.2.2.2.2.2.1
  obtain ⟨r1, r2, r3, r4, r5⟩ := h.2.2.2.1
  have hat : ∀ l, l < Lc → am_hat H (ln l 0) = am_hat K (ln l 0) := fun l hl => pu_hat_congr eq (pu_wl0 (hwl l hl))
  have hlm : ∀ o, o < O → ∀ p, p < 32 → (bt (am_it (pu_lmS ln K (mk o) o) 0 Lc) p = true ↔ (p = o ∧ ∃ l, l < Lc ∧ pu_lmP ln K (mk o) o l = true)) := by
    intro o ho p hp
    rw [rl_orit (g := fun l => bif pu_lmP ln K (mk o) o l then 1 <<< (nI o &&& 31) else 0) Lc (fun l b _ => by unfold pu_lmS; cases pu_lmP ln K (mk o) o l with
      | true => rfl
      | false => rw [cond_false, cond_false, pu_or_zero]), b_0]
    constructor
    · rintro (q | ⟨l, hl, q⟩)
      · cases q
      · try dsimp only at q
        cases e : pu_lmP ln K (mk o) o l with
        | true =>
          rw [e, cond_true, rl_bit1 (q := o) (by omega) hp rfl] at q
          exact ⟨of_decide_eq_true q, l, hl, e⟩
        | false => rw [e, cond_false, b_0] at q; cases q
    · rintro ⟨rfl, l, hl, e⟩
      refine Or.inr ⟨l, hl, ?_⟩
      try dsimp only
      rw [e, cond_true, rl_bit1 (q := p) (by omega) hp rfl]
      exact decide_eq_true rfl
  have e40 := pu_it_stop (f := pu_leS sr ln Lc H) (a := 0) (n := Lc) (fun i b hi => if_neg (by omega)) (40 - Lc)
  rw [show Lc + (40 - Lc) = 40 by omega] at e40
  rw [e40]
  apply rl_ext
  intro p hp
  rw [rl_orit (g := fun i => if sr i = 5 then (bif pu_ex (pu_elP ln Lc H i (ln i 7).toNatClampNeg) 40 0 then 1 <<< (ln i 7 &&& 31) else 0) else 0) Lc (fun i b hi => ?_), rl_orit (g := fun o => am_it (pu_lmS ln K (mk o) o) 0 Lc) O (fun o b ho => ?_), b_0]
  · constructor
    · rintro (q | ⟨i, hi, q⟩)
      · cases q
      · refine Or.inr ?_
        try dsimp only at q
        by_cases hs : sr i = 5
        · obtain ⟨o, ho, e7, e18⟩ := r5 i hi hs
          rw [if_pos hs, e7, nI_clamp (by omega)] at q
          cases ex : pu_ex (pu_elP ln Lc H i o) 40 0 with
          | false => rw [ex, cond_false, b_0] at q; cases q
          | true =>
            rw [ex, cond_true, rl_bit1 (q := o) (by omega) hp rfl] at q
            have q := of_decide_eq_true q
            subst q
            have em : mk p = i := by
              have := (hmk p ho).1
              rw [e18] at this
              exact ((nI_eq (by omega) (by have := (hmk p ho).2.1; omega)).mp this).symm
            refine ⟨p, ho, (hlm p ho p hp).mpr ⟨rfl, ?_⟩⟩
            obtain ⟨j, j1, j2, j3⟩ := (rl_ex _ _).mp ex
            unfold pu_elP at j3
            obtain ⟨k1, k2⟩ := (Bool.and_eq_true _ _).mp j3
            obtain ⟨k3, k4, k5⟩ := of_decide_eq_true k1
            refine ⟨j, k3, ?_⟩
            unfold pu_lmP
            rw [em, decide_eq_true ⟨k4, k5⟩, ← hat j k3, k2]
            rfl
        · rw [if_neg hs, b_0] at q; cases q
    · rintro (q | ⟨o, ho, q⟩)
      · cases q
      · refine Or.inr ?_
        obtain ⟨rfl, l, hl, e⟩ := (hlm o ho p hp).mp q
        obtain ⟨m1, m2, m3, m4⟩ := hmk p ho
        unfold pu_lmP at e
        obtain ⟨k1, k2⟩ := (Bool.and_eq_true _ _).mp e
        obtain ⟨k4, k5⟩ := of_decide_eq_true k1
        refine ⟨mk p, m2, ?_⟩
        try dsimp only
        have ex : pu_ex (pu_elP ln Lc H (mk p) p) 40 0 = true := by
          rw [rl_ex]
          refine ⟨l, by omega, by omega, ?_⟩
          unfold pu_elP
          rw [decide_eq_true ⟨hl, k4, k5⟩, hat l hl, k2]
          rfl
        rw [if_pos m3, m4, nI_clamp (by omega), ex, cond_true, rl_bit1 (q := p) (by omega) hp rfl]
        exact decide_eq_true rfl
  · exact rl_orlin (g := fun l => bif pu_lmP ln K (mk o) o l then 1 <<< (nI o &&& 31) else 0) (fun l b _ => by unfold pu_lmS; cases pu_lmP ln K (mk o) o l with
      | true => rfl
      | false => rw [cond_false, cond_false, pu_or_zero])
  · unfold pu_leS
    rw [if_pos hi]
    split
    · cases pu_ex (pu_elP ln Lc H i (ln i 7).toNatClampNeg) 40 0 with
      | true => rfl
      | false => rw [cond_false, cond_false, pu_or_zero]
    · rw [pu_or_zero]
theorem rl_lbd {H : Nat → Int32} (mk : Nat → Nat) (hO : O ≤ 16) : pu_bd O (am_it (pu_loS ln H mk Lc) 0 O) := by
  refine pu_it_ind (P := pu_bd O) (pu_bd0 O) O (fun o b ho hb => ?_)
  unfold pu_loS
  refine pu_it_ind (P := pu_bd O) hb Lc (fun l c _ hc => ?_)
  unfold pu_lmS
  cases pu_lmP ln H (mk o) o l with
  | false => exact hc
  | true => exact pu_bd_or hc (pu_bd_one ho (by omega))
theorem op_leaves (h : rl_ σ sr ln Lc μ O T) : op_I xs LL 111 191 [] σ sr ln Lc μ := by
  have hL := h.1.2.2.2.2.2.2
  have hsr := h.1.2.2.2.2.1
  have hwl := h.1.2.2.2.2.2.1
  obtain ⟨τ, ν, N, hf, hw, hr0, hr, eq, hb, hb2, eN, eN2, hN, hSF, h27, hfr⟩ := rl_fill xs LL h
  have hO := hr.2.2.2.1
  obtain ⟨mk, hmk⟩ := rl_mk hr
  have hmk2 : ∀ o, o < O → ν 18 o = nI (mk o) ∧ mk o < Lc := fun o ho => ⟨(hmk o ho).1, (hmk o ho).2.1⟩
  have hbase := rl_lbase hr eq mk hmk
  have hB := rl_lbd (ln := ln) (Lc := Lc) (H := ν 24) mk hO.1
  have hcl := sp_X11_leaves (xs := xs) (LL := LL) (μ := μ) 4 hL hsr hwl hf
  rw [hbase] at hcl
  generalize hBe : am_it (pu_loS ln (ν 24) mk Lc) 0 O = B at hcl hB
  have hinc : ∀ a p, p < 32 → bt a p = true → bt (pu_lgF (ν 24) O a) p = true := by
    intro a p _ q
    rw [rl_lgF, b_or, q]
    rfl
  have hstep : ∀ a, pu_bd O a → (∀ i, pu_lfS (τ 12) i a = pu_lgF (ν 24) O a) := by
    intro a ha i
    unfold pu_lfS
    rw [rl_hf16 hO.1 ha, rl_lgF]
    congr 1
    refine pu_it_congr O (fun j b hj => ?_)
    have := hO.1
    unfold pu_hfS
    rw [eq _ (by omega), eq _ (by omega), eq _ (by omega)]
  have hits : ∀ n, am_it (pu_lfS (τ 12)) B n = am_it (fun _ a => pu_lgF (ν 24) O a) B n ∧ pu_bd O (am_it (fun _ a => pu_lgF (ν 24) O a) B n) := by
    intro n
    induction n with
    | zero => exact ⟨rfl, hB⟩
    | succ n ih =>
      rw [am_itS, am_itS, ih.1]
      exact ⟨hstep _ ih.2 n, rl_lgbd hO.1 hb ih.2⟩
  obtain ⟨k, k1, k2, k3⟩ := rl_close (M := O) (by have := hO.1; omega) hinc (fun a ha => rl_lgbd hO.1 hb ha) hB
  have hstop := rl_itd (f := fun _ a => pu_lgF (ν 24) O a) (a := B) (fun _ _ _ => rfl) k3
  have h16 : am_it (pu_lfS (τ 12)) B 16 = am_it (fun _ a => pu_lgF (ν 24) O a) B k := by
    rw [(hits 16).1]
    have := hstop (16 - k)
    rw [show k + (16 - k) = 16 by have := hO.1; omega] at this
    exact this
  by_cases hB0 : B = 0
  · have hz : ∀ n, am_it (fun _ a => pu_lgF (ν 24) O a) B n = 0 := by
      intro n
      induction n with
      | zero => exact hB0
      | succ n ih =>
        rw [am_itS, ih, rl_lgF]
        have : am_it (pu_hfS (ν 24) 0) 0 O = 0 := by
          refine pu_it_ind (P := fun v => v = 0) rfl O (fun i b hi hb => ?_)
          unfold pu_hfS
          rw [rl_hbf (pu_bd0 0) (Nat.zero_le i) (by have := hO.1; omega)]
          exact hb
        rw [this]
        rfl
    exact op_q hr (by rw [h16, hz]) hcl (sp_X12_leaves_0 4 hL hsr hwl hr.2.2.1 hO.2.2.1 hO.1 mk hmk2 (by rw [hBe]; exact hB0) hw)
  · refine op_q hr h16 hcl ?_
    have q := sp_X12_leaves_k (xs := xs) (LL := LL) (σ := τ) (μ := μ) (ν := ν) 4 hL hsr hwl hr.2.2.1 hO.2.2.1 hO.1 mk hmk2 k (fun r hr => by
      rw [hBe]
      cases r with
      | zero => exact fun q => hB0 q.symm
      | succ r => exact fun q => k2 r (by omega) q.symm) (by rw [hBe]; exact k3) hw
    rw [hBe] at q
    exact q
end LVS
/-! melted -/
def rl_rch (E : Nat → Nat → Prop) (u v : Nat) : Prop := ∀ S : Nat → Prop, S u → (∀ a b, S a → E a b → S b) → S v
theorem rl_rch_refl {E : Nat → Nat → Prop} (u : Nat) : rl_rch E u u := fun _ h _ => h
theorem rl_rch_step {E : Nat → Nat → Prop} {u a b : Nat} (h : rl_rch E u a) (e : E a b) : rl_rch E u b := fun S h1 h2 => h2 a b (h S h1 h2) e
theorem rl_rch_rev {E : Nat → Nat → Prop} {u v : Nat} (h : rl_rch (fun a b => E b a) u v) : rl_rch E v u :=
  h (fun w => rl_rch E w u) (rl_rch_refl u) (fun a b ha e S hb hc => ha S (hc b a hb e) hc)
theorem rl_rch_iff {E : Nat → Nat → Prop} {u v : Nat} : rl_rch (fun a b => E b a) u v ↔ rl_rch E v u := ⟨rl_rch_rev, fun h => rl_rch_rev (E := fun a b => E b a) h⟩
/-- the closure of one name under a step that is sound and closed -/
theorem rl_clos {E : Nat → Nat → Prop} {G : Int32 → Int32} (hinc : ∀ a p, p < 32 → bt a p = true → bt (G a) p = true) (hsnd : ∀ (S : Nat → Prop) (a : Int32), (∀ x y, S x → E x y → S y) → (∀ p, p < 20 → bt a p = true → S p) → pu_bd 20 a → ∀ p, p < 20 → bt (G a) p = true → S p) (hbd : ∀ a, pu_bd 20 a → pu_bd 20 (G a)) (hcls : ∀ C x y, G C = C → x < 20 → bt C x = true → E x y → y < 20 ∧ bt C y = true) {u : Nat} (hu : u < 20) {k : Nat} (hk : am_it (fun _ a => G a) (1 <<< (nI u &&& 31)) (k + 1) = am_it (fun _ a => G a) (1 <<< (nI u &&& 31)) k) {v : Nat} (hv : v < 20) : bt (am_it (fun _ a => G a) (1 <<< (nI u &&& 31)) k) v = true ↔ rl_rch E u v := by
  have hb : ∀ r, pu_bd 20 (am_it (fun _ a => G a) (1 <<< (nI u &&& 31)) r) := by
    intro r
    induction r with
    | zero => exact pu_bd_one hu (by omega)
    | succ r ih => exact hbd _ ih
  have hs : ∀ r p, p < 20 → bt (am_it (fun _ a => G a) (1 <<< (nI u &&& 31)) r) p = true → rl_rch E u p := by
    intro r
    induction r with
    | zero =>
      intro p hp h
      have h : bt (1 <<< (nI u &&& 31)) p = true := h
      rw [rl_bit1 (q := u) (by omega) (by omega) rfl] at h
      rw [of_decide_eq_true h]
      exact rl_rch_refl u
    | succ r ih => exact fun p hp h => hsnd (fun w => rl_rch E u w) _ (fun x y hx e => rl_rch_step hx e) ih (hb r) p hp h
  have hi : ∀ r, bt (am_it (fun _ a => G a) (1 <<< (nI u &&& 31)) r) u = true := by
    intro r
    induction r with
    | zero =>
      show bt (1 <<< (nI u &&& 31)) u = true
      rw [rl_bit1 (q := u) (by omega) (by omega) rfl]
      exact decide_eq_true rfl
    | succ r ih => exact hinc _ u (by omega) ih
  refine ⟨hs k v hv, fun h => ?_⟩
  exact (h (fun w => w < 20 ∧ bt (am_it (fun _ a => G a) (1 <<< (nI u &&& 31)) k) w = true) ⟨hu, hi k⟩ (fun a b ha e => hcls _ a b hk ha.1 ha.2 e)).2
section MLT
variable {xs : Nat → Int32} {LL : Nat} {σ τ ρ μ ν κ : Nat → Nat → Int32} {sr : Nat → Nat} {ln lm : Nat → Nat → Int32} {Lc O T : Nat}
def rl_E (sr : Nat → Nat) (ln : Nat → Nat → Int32) (Lc f t : Nat) (a b : Nat) : Prop := ∃ i, i < Lc ∧ ¬ ln i 6 = 0 ∧ sr i = 0 ∧ ln i f = nI a ∧ ln i t = nI b ∧ a < 20 ∧ b < 20
theorem rl_flS_eq {f t i : Nat} {a : Int32} : pu_flS f t sr ln Lc i a = if i < Lc then (if ln i 6 = 0 then a else if sr i = 0 then (bif am_hb a (ln i f).toNatClampNeg then a ||| 1 <<< (ln i t &&& 31) else a) else a) else a := rfl
theorem rl_flmono {f t : Nat} {a : Int32} {p : Nat} : ∀ n m, n ≤ m → bt (am_it (pu_flS f t sr ln Lc) a n) p = true → bt (am_it (pu_flS f t sr ln Lc) a m) p = true := by
  intro n m hnm h
  induction m with
  | zero =>
    have : n = 0 := by omega
    subst this
    exact h
  | succ m ih =>
    by_cases e : n = m + 1
    · subst e; exact h
    · have h1 := ih (by omega)
      rw [am_itS, rl_flS_eq]
      split
      · split
        · exact h1
        · split
          · cases am_hb (am_it (pu_flS f t sr ln Lc) a m) (ln m f).toNatClampNeg with
            | true => rw [cond_true, b_or, h1]; rfl
            | false => exact h1
          · exact h1
      · exact h1
theorem rl_flow (h : rl_ σ sr ln Lc μ O T) {f t : Nat} (hft : f = 1 ∧ t = 0 ∨ f = 0 ∧ t = 1) {u : Nat} (hu : u < 20) : ∃ k, k < 20 ∧ (∀ r, r < k → ¬ am_it (pu_flP f t sr ln Lc) (1 <<< (nI u &&& 31)) (r + 1) = am_it (pu_flP f t sr ln Lc) (1 <<< (nI u &&& 31)) r) ∧ am_it (pu_flP f t sr ln Lc) (1 <<< (nI u &&& 31)) (k + 1) = am_it (pu_flP f t sr ln Lc) (1 <<< (nI u &&& 31)) k ∧ pu_bd 20 (am_it (pu_flP f t sr ln Lc) (1 <<< (nI u &&& 31)) k) ∧ ∀ v, v < 20 → (bt (am_it (pu_flP f t sr ln Lc) (1 <<< (nI u &&& 31)) k) v = true ↔ rl_rch (rl_E sr ln Lc f t) u v) := by
  have hL := h.1.2.2.2.2.2.2
  have hwl := h.1.2.2.2.2.2.1
  have hend : ∀ i, i < Lc → sr i = 0 → (∃ a, a < 20 ∧ ln i f = nI a) ∧ ∃ b, b < 20 ∧ ln i t = nI b := by
    intro i hi hs
    obtain ⟨w0, -, w1, -⟩ := hwl i hi
    have w1 := w1 (by omega)
    rcases hft with ⟨rfl, rfl⟩ | ⟨rfl, rfl⟩
    · exact ⟨w1, w0⟩
    · exact ⟨w0, w1⟩
  have hinc : ∀ a p, p < 32 → bt a p = true → bt (am_it (pu_flS f t sr ln Lc) a 40) p = true := fun a p _ q => rl_flmono 0 40 (by omega) q
  have hbd : ∀ a, pu_bd 20 a → pu_bd 20 (am_it (pu_flS f t sr ln Lc) a 40) := by
    intro a ha
    refine pu_it_ind (P := pu_bd 20) ha 40 (fun i b _ hb => ?_)
    unfold pu_flS
    split
    · rename_i hi
      split
      · exact hb
      · split
        · rename_i hs
          obtain ⟨-, y, hy, e⟩ := hend i hi hs
          cases am_hb b (ln i f).toNatClampNeg with
          | true => rw [cond_true, e]; exact pu_bd_or hb (pu_bd_one hy (by omega))
          | false => exact hb
        · exact hb
    · exact hb
  have hsnd : ∀ (S : Nat → Prop) (a : Int32), (∀ x y, S x → rl_E sr ln Lc f t x y → S y) → (∀ p, p < 20 → bt a p = true → S p) → pu_bd 20 a → ∀ p, p < 20 → bt (am_it (pu_flS f t sr ln Lc) a 40) p = true → S p := by
    intro S a hS ha _
    refine pu_it_ind (P := fun v => ∀ p, p < 20 → bt v p = true → S p) ha 40 (fun i b _ hb => ?_)
    unfold pu_flS
    split
    · rename_i hi
      split
      · exact hb
      · rename_i h6
        split
        · rename_i hs
          obtain ⟨⟨x, hx, ex⟩, y, hy, ey⟩ := hend i hi hs
          rw [ex, nI_clamp (by omega)]
          cases eb : am_hb b x with
          | false => exact hb
          | true =>
            intro p hp q
            rw [cond_true, b_or, Bool.or_eq_true, rl_bit1 (q := y) (by omega) (by omega) ey] at q
            rcases q with q | q
            · exact hb p hp q
            · rw [of_decide_eq_true q]
              rw [pu_hb (by omega)] at eb
              exact hS x y (hb x hx eb) ⟨i, hi, h6, hs, ex, ey, hx, hy⟩
        · exact hb
    · exact hb
  have hcls : ∀ C x y, am_it (pu_flS f t sr ln Lc) C 40 = C → x < 20 → bt C x = true → rl_E sr ln Lc f t x y → y < 20 ∧ bt C y = true := by
    intro C x y hC hx hb ⟨i, hi, h6, hs, ex, ey, _, hy⟩
    refine ⟨hy, ?_⟩
    rw [← hC]
    refine rl_flmono (i + 1) 40 (by omega) ?_
    rw [am_itS]
    have hxi : am_hb (am_it (pu_flS f t sr ln Lc) C i) x = true := by
      rw [pu_hb (by omega)]
      exact rl_flmono 0 i (by omega) hb
    rw [rl_flS_eq, if_pos hi, if_neg h6, if_pos hs, ex, nI_clamp (by omega), hxi, cond_true, b_or, rl_bit1 (q := y) (by omega) (by omega) ey, decide_eq_true rfl, Bool.or_true]
  obtain ⟨k, k1, k2, k3⟩ := rl_close (M := 20) (by decide) hinc hbd (B := 1 <<< (nI u &&& 31)) (pu_bd_one hu (by omega))
  have c1 : 1 ≤ pu_cn (1 <<< (nI u &&& 31)) 20 := rl_cn1 hu (by rw [rl_bit1 (q := u) (by omega) (by omega) rfl]; exact decide_eq_true rfl)
  refine ⟨k, by omega, k2, k3, ?_, fun v hv => rl_clos hinc hsnd hbd hcls hu k3 hv⟩
  exact pu_it_ind (P := pu_bd 20) (pu_bd_one hu (by omega)) k (fun i b _ hb => hbd b hb)
theorem rl_fwS_eq {i : Nat} {F : Nat → Int32} : pu_fwS sr ln i F = if ln i 6 = 0 then F else if sr i = 0 then upd F (ln i 1).toNatClampNeg (F (ln i 1).toNatClampNeg ||| 1 <<< (ln i 0 &&& 31)) else F := rfl
theorem rl_fwF (h : rl_ σ sr ln Lc μ O T) (F0 : Nat → Int32) (h0 : ∀ a, a < 20 → F0 a = 0) : ∀ n, n ≤ Lc → ∀ a x, a < 20 → x < 32 → (bt (am_it (pu_fwS sr ln) F0 n a) x = true ↔ ∃ i, i < n ∧ ¬ ln i 6 = 0 ∧ sr i = 0 ∧ ln i 1 = nI a ∧ ln i 0 = nI x ∧ x < 20) := by
  have hwl := h.1.2.2.2.2.2.1
  intro n
  induction n with
  | zero =>
    intro _ a x ha _
    show bt (F0 a) x = true ↔ _
    rw [h0 a ha, b_0]
    exact ⟨fun q => (by cases q), fun ⟨i, hi, _⟩ => absurd hi (Nat.not_lt_zero _)⟩
  | succ n ih =>
    intro hn a x ha hx
    have ih := ih (by omega) a x ha hx
    rw [am_itS, rl_fwS_eq]
    by_cases h6 : ln n 6 = 0
    · rw [if_pos h6, ih]
      constructor
      · rintro ⟨i, hi, q⟩; exact ⟨i, by omega, q⟩
      · rintro ⟨i, hi, q⟩
        by_cases e : i = n
        · subst e; exact absurd h6 q.1
        · exact ⟨i, by omega, q⟩
    · rw [if_neg h6]
      by_cases hs : sr n = 0
      · rw [if_pos hs]
        obtain ⟨⟨z, hz, e0⟩, -, w1, -⟩ := hwl n (by omega)
        obtain ⟨y, hy, e1⟩ := w1 (by omega)
        rw [e1, nI_clamp (by omega)]
        by_cases hay : a = y
        · subst hay
          rw [pu_upl, b_or, Bool.or_eq_true, ih, rl_bit1 (q := z) (by omega) hx e0]
          constructor
          · rintro (⟨i, hi, q⟩ | q)
            · exact ⟨i, by omega, q⟩
            · have q := of_decide_eq_true q
              subst q
              exact ⟨n, by omega, h6, hs, e1, e0, hz⟩
          · rintro ⟨i, hi, q⟩
            by_cases e : i = n
            · subst e
              refine Or.inr (decide_eq_true ?_)
              have := q.2.2.2.1
              rw [e0] at this
              exact ((nI_eq (by omega) (by omega)).mp this).symm
            · exact Or.inl ⟨i, by omega, q⟩
        · rw [pu_upn hay, ih]
          constructor
          · rintro ⟨i, hi, q⟩; exact ⟨i, by omega, q⟩
          · rintro ⟨i, hi, q⟩
            by_cases e : i = n
            · subst e
              have := q.2.2.1
              rw [e1] at this
              exact absurd ((nI_eq (by omega) (by omega)).mp this).symm hay
            · exact ⟨i, by omega, q⟩
      · rw [if_neg hs, ih]
        constructor
        · rintro ⟨i, hi, q⟩; exact ⟨i, by omega, q⟩
        · rintro ⟨i, hi, q⟩
          by_cases e : i = n
          · subst e; exact absurd q.2.1 hs
          · exact ⟨i, by omega, q⟩
def rl_rhg (F : Nat → Int32) (b : Int32) (a : Nat) : Int32 := bif am_hb b a then F a else 0
theorem rl_rhS (F : Nat → Int32) (b : Int32) (a : Nat) (z : Int32) : pu_rhS F b a z = z ||| rl_rhg F b a := by
  unfold pu_rhS rl_rhg
  cases am_hb b a with
  | true => rfl
  | false => rw [cond_false, cond_false, pu_or_zero]
theorem rl_reach {E : Nat → Nat → Prop} {F : Nat → Int32} (hF : ∀ a x, a < 20 → x < 32 → (bt (F a) x = true ↔ E a x ∧ x < 20)) (hE : ∀ a b, E a b → a < 20 ∧ b < 20) {u : Nat} (hu : u < 20) : ∃ k, (∀ r, r ≤ k → ¬ pu_bfP (pu_rhP F) (1 <<< (nI u &&& 31)) r = am_it (pu_rhP F) (1 <<< (nI u &&& 31)) r) ∧ am_it (pu_rhP F) (1 <<< (nI u &&& 31)) (k + 1) = am_it (pu_rhP F) (1 <<< (nI u &&& 31)) k ∧ ∀ v, v < 20 → (bt (am_it (pu_rhP F) (1 <<< (nI u &&& 31)) k) v = true ↔ rl_rch E u v) := by
  have hbits : ∀ b p, (bt (am_it (pu_rhS F b) b 20) p = true ↔ bt b p = true ∨ ∃ a, a < 20 ∧ bt (rl_rhg F b a) p = true) := fun b p => rl_orit (g := rl_rhg F b) 20 (fun a z _ => rl_rhS F b a z)
  have hg : ∀ b a p, a < 20 → p < 32 → (bt (rl_rhg F b a) p = true ↔ bt b a = true ∧ E a p ∧ p < 20) := by
    intro b a p ha hp
    unfold rl_rhg
    rw [pu_hb (by omega)]
    cases e : bt b a with
    | true => rw [cond_true, hF a p ha hp]; exact ⟨fun q => ⟨rfl, q⟩, fun q => q.2⟩
    | false => rw [cond_false, b_0]; exact ⟨fun q => (by cases q), fun q => (by cases q.1)⟩
  have hinc : ∀ a p, p < 32 → bt a p = true → bt (am_it (pu_rhS F a) a 20) p = true := fun a p _ q => (hbits a p).mpr (Or.inl q)
  have hbd : ∀ a, pu_bd 20 a → pu_bd 20 (am_it (pu_rhS F a) a 20) := by
    intro a ha p hp q
    rcases (hbits a p).mp q with q | ⟨x, hx, q⟩
    · exact ha p hp q
    · exact ((hg a x p hx hp).mp q).2.2
  have hsnd : ∀ (S : Nat → Prop) (a : Int32), (∀ x y, S x → E x y → S y) → (∀ p, p < 20 → bt a p = true → S p) → pu_bd 20 a → ∀ p, p < 20 → bt (am_it (pu_rhS F a) a 20) p = true → S p := by
    intro S a hS ha _ p hp q
    rcases (hbits a p).mp q with q | ⟨x, hx, q⟩
    · exact ha p hp q
    · have q := (hg a x p hx (by omega)).mp q
      exact hS x p (ha x hx q.1) q.2.1
  have hcls : ∀ C x y, am_it (pu_rhS F C) C 20 = C → x < 20 → bt C x = true → E x y → y < 20 ∧ bt C y = true := by
    intro C x y hC hx hb e
    have hy := (hE x y e).2
    refine ⟨hy, ?_⟩
    rw [← hC]
    exact (hbits C y).mpr (Or.inr ⟨x, hx, (hg C x y hx (by omega)).mpr ⟨hb, e, hy⟩⟩)
  obtain ⟨k, k1, k2, k3⟩ := rl_close (M := 20) (G := fun b => am_it (pu_rhS F b) b 20) (by decide) hinc hbd (B := 1 <<< (nI u &&& 31)) (pu_bd_one hu (by omega))
  have hu1 : bt (1 <<< (nI u &&& 31)) u = true := by rw [rl_bit1 (q := u) (by omega) (by omega) rfl]; exact decide_eq_true rfl
  refine ⟨k, fun r hr => ?_, k3, fun v hv => rl_clos hinc hsnd hbd hcls hu k3 hv⟩
  cases r with
  | zero =>
    intro q
    have q : (0 : Int32) = 1 <<< (nI u &&& 31) := q
    rw [← q, b_0] at hu1
    cases hu1
  | succ r => exact fun q => k2 r (by omega) q.symm
theorem rl_fs (p : Nat → Bool) (n : Nat) : ∀ r a, a + r = n → ∃ m, pu_fs p n r a = m ∧ m ≤ n ∧ a ≤ m ∧ (m < n → p m = true) ∧ ∀ i, a ≤ i → i < m → p i = false := by
  intro r
  induction r with
  | zero => intro a h; exact ⟨n, rfl, by omega, by omega, fun q => by omega, fun i h1 h2 => by omega⟩
  | succ r ih =>
    intro a h
    show ∃ m, (bif p a then a else pu_fs p n r (a + 1)) = m ∧ _
    cases e : p a with
    | true => exact ⟨a, rfl, by omega, by omega, fun _ => e, fun i h1 h2 => by omega⟩
    | false =>
      obtain ⟨m, m1, m2, m3, m4, m5⟩ := ih (a + 1) (by omega)
      refine ⟨m, m1, m2, by omega, m4, fun i h1 h2 => ?_⟩
      by_cases ei : i = a
      · subst ei; exact e
      · exact m5 i (by omega) h2
theorem op_melted (h : rl_ σ sr ln Lc μ O T) (n : Int32) : op_I xs LL 110 190 [.int n] σ sr ln Lc μ := by
  have hL := h.1.2.2.2.2.2.2
  have hsr := h.1.2.2.2.2.1
  have hwl := h.1.2.2.2.2.2.1
  cases e : am_in n 20 with
  | false => exact op_same h (-2) (sp_X11_melted_bad 8 n e) (sp_X12_melted_bad 8 n e)
  | true =>
    obtain ⟨n, hn, rfl⟩ := am_in_nI e
    obtain ⟨k1, a1, a2, a3, a4, a5⟩ := rl_flow h (f := 1) (t := 0) (Or.inl ⟨rfl, rfl⟩) hn
    obtain ⟨k2, b1, b2, b3, b4, b5⟩ := rl_flow h (f := 0) (t := 1) (Or.inr ⟨rfl, rfl⟩) hn
    have hA := fun d => sp_X11_flowFrom_f (xs := xs) (LL := LL) (σ := σ) (μ := μ) d hsr hwl n hn k1 a1 a2 a3
    have hB := fun d => sp_X11_flowFrom_b (xs := xs) (LL := LL) (σ := σ) (μ := μ) d hsr hwl n hn k2 b1 b2 b3
    generalize am_it (pu_flP 1 0 sr ln Lc) (1 <<< (nI n &&& 31)) k1 = A at a4 a5 hA
    generalize am_it (pu_flP 0 1 sr ln Lc) (1 <<< (nI n &&& 31)) k2 = B at b4 b5 hB
    have hBE : ∀ v, v < 20 → (bt B v = true ↔ rl_rch (rl_E sr ln Lc 1 0) v n) := by
      intro v hv
      rw [b5 v hv, ← rl_rch_iff]
      have : rl_E sr ln Lc 0 1 = fun a b => rl_E sr ln Lc 1 0 b a := by
        funext a b
        apply propext
        constructor
        · rintro ⟨i, c1, c2, c3, c4, c5, c6, c7⟩; exact ⟨i, c1, c2, c3, c5, c4, c7, c6⟩
        · rintro ⟨i, c1, c2, c3, c4, c5, c6, c7⟩; exact ⟨i, c1, c2, c3, c5, c4, c7, c6⟩
      rw [this]
    have hF : ∀ a x, a < 20 → x < 32 → (bt (am_it (pu_fwS sr ln) (am_fill (fun _ => 0) (μ 29) 20 0) Lc a) x = true ↔ rl_E sr ln Lc 1 0 a x ∧ x < 20) := by
      intro a x ha hx
      rw [rl_fwF h (am_fill (fun _ => 0) (μ 29) 20 0) (fun a ha => if_pos ⟨Nat.zero_le _, ha⟩) Lc (Nat.le_refl _) a x ha hx]
      constructor
      · rintro ⟨i, c1, c2, c3, c4, c5, c6⟩; exact ⟨⟨i, c1, c2, c3, c4, c5, ha, c6⟩, c6⟩
      · rintro ⟨⟨i, c1, c2, c3, c4, c5, c6, c7⟩, c8⟩; exact ⟨i, c1, c2, c3, c4, c5, c8⟩
    generalize hFe : am_it (pu_fwS sr ln) (am_fill (fun _ => 0) (μ 29) 20 0) Lc = F at hF
    have hch : ∀ a, ∃ v : Int32, a < 20 → (∀ d, am_X xs LL (d + 1) 189 [.ref 47, .int (nI a)] (hG σ sr ln Lc (am_up μ 29 F)) (some (.int v)) (hG σ sr ln Lc (am_up μ 29 F))) ∧ ∀ x, x < 20 → (bt v x = true ↔ rl_rch (rl_E sr ln Lc 1 0) a x) := by
      intro a
      by_cases ha : a < 20
      · obtain ⟨k, c1, c2, c3⟩ := rl_reach hF (fun x y ⟨i, _, _, _, _, _, q1, q2⟩ => ⟨q1, q2⟩) ha
        exact ⟨_, fun _ => ⟨fun d => sp_X12_reached (μ := am_up μ 29 F) d a k c1 c2, c3⟩⟩
      · exact ⟨0, fun q => absurd q ha⟩
    have hRC := fun a ha => Classical.choose_spec (hch a) ha
    generalize hRCe : (fun a => Classical.choose (hch a)) = RC
    have hRC : ∀ a, a < 20 → (∀ d, am_X xs LL (d + 1) 189 [.ref 47, .int (nI a)] (hG σ sr ln Lc (am_up μ 29 F)) (some (.int (RC a))) (hG σ sr ln Lc (am_up μ 29 F))) ∧ ∀ x, x < 20 → (bt (RC a) x = true ↔ rl_rch (rl_E sr ln Lc 1 0) a x) := by
      rw [← hRCe]
      exact hRC
    have hq := sp_X12_melted_ok (xs := xs) (LL := LL) (σ := σ) (μ := μ) 8 hsr hwl hL h.2.2.1 n hn RC (fun a ha d => by rw [hFe]; exact (hRC a ha).1 d)
    rw [hFe] at hq
    obtain ⟨m, m1, m2, m3, m4, m5⟩ := rl_fs (fun a => am_hb (RC n) a && am_hb (RC a) n) n n 0 (by omega)
    rw [m1] at hq
    have hpi : ∀ i, i < 20 → ((am_hb (RC n) i && am_hb (RC i) n) = true ↔ bt (A &&& B) i = true) := by
      intro i hi
      rw [pu_hb (by omega), pu_hb (by omega), Bool.and_eq_true, (hRC n hn).2 i hi, (hRC i hi).2 n hn, b_and, Bool.and_eq_true, a5 i hi, hBE i hi]
    have hm20 : m < 20 := by omega
    have hbm : bt (A &&& B) m = true := by
      by_cases e : m < n
      · exact (hpi m hm20).mp (m4 e)
      · have e : m = n := by omega
        rw [e, b_and, Bool.and_eq_true, a5 n hn, hBE n hn]
        exact ⟨rl_rch_refl n, rl_rch_refl n⟩
    have hb0 : ∀ i, i < m → bt (A &&& B) i = false := by
      intro i hi
      cases eb : bt (A &&& B) i with
      | false => rfl
      | true =>
        have := (hpi i (by omega)).mpr eb
        rw [m5 i (Nat.zero_le _) hi] at this
        cases this
    exact ⟨_, _, _, _, _, _, O, T, sp_X11_melted_ok 8 n hn A B hA hB m (rl_bd_and a4) hm20 hbm hb0, hq, rl_nu (fun j hj => am_up_ne (by omega)) h⟩
end MLT
