/-! the rounds of the class and of the reference are the pure ones -/
theorem pu_alg {w a r : Int32} (h : w ||| a = w) : w ||| r ||| (a ||| r) = w ||| r := by
  apply b_ext
  intro i _
  have e : bt (w ||| a) i = bt w i := by rw [h]
  rw [b_or] at e
  rw [b_or, b_or, b_or]
  revert e
  cases bt w i <;> cases bt a i <;> cases bt r i <;> decide
theorem am_ntS_eq (pl : Nat) (fr rd : Int32) (o : Nat) (F : Nat → Int32) : am_ntS pl fr rd o F = bif am_hb fr o then upd F ((16 * pl) + o) rd else F := rfl
theorem am_seS_eq (A : Nat → Int32) (rd : Int32) (p : Nat) (s : Int32 × (Nat → Int32) × (Nat → Int32)) : am_seS A rd p s = if am_fr A s.2.1 p = 0 then s else (1, upd s.2.1 p (s.2.1 p ||| am_fr A s.2.1 p), am_note p (am_fr A s.2.1 p) rd s.2.2) := rfl
theorem pu_nt_at (pl : Nat) (fr rd : Int32) (F : Nat → Int32) {n o : Nat} (ho : o < 16) : ∀ c, c ≤ 16 → am_it (am_ntS pl fr rd) F c (16 * n + o) = if n = pl ∧ o < c ∧ am_hb fr o = true then rd else F (16 * n + o) := by
  intro c
  induction c with
  | zero => intro _; exact (if_neg (fun h => absurd h.2.1 (Nat.not_lt_zero _))).symm
  | succ c ih =>
    intro hc
    have ih := ih (by omega)
    rw [am_itS, am_ntS_eq]
    cases hb : am_hb fr c with
    | false =>
      rw [cond_false, ih]
      by_cases h : n = pl ∧ o < c ∧ am_hb fr o = true
      · rw [if_pos h, if_pos ⟨h.1, by omega, h.2.2⟩]
      · rw [if_neg h, if_neg ?_]
        rintro ⟨h1, h2, h3⟩
        by_cases e : o = c
        · subst e; rw [hb] at h3; cases h3
        · exact h ⟨h1, by omega, h3⟩
    | true =>
      rw [cond_true]
      show (if 16 * n + o = 16 * pl + c then rd else am_it (am_ntS pl fr rd) F c (16 * n + o)) = _
      by_cases e : 16 * n + o = 16 * pl + c
      · have e1 : n = pl := by omega
        have e2 : o = c := by omega
        rw [if_pos e, if_pos ⟨e1, by omega, by rw [e2]; exact hb⟩]
      · rw [if_neg e, ih]
        by_cases h : n = pl ∧ o < c ∧ am_hb fr o = true
        · rw [if_pos h, if_pos ⟨h.1, by omega, h.2.2⟩]
        · rw [if_neg h, if_neg ?_]
          rintro ⟨h1, h2, h3⟩
          exact h ⟨h1, by omega, h3⟩
theorem pu_note_at (pl : Nat) (fr rd : Int32) (F : Nat → Int32) {n o : Nat} (hn : n < 20) (ho : o < 16) : am_note pl fr rd F (16 * n + o) = if n = pl ∧ am_hb fr o = true then rd else F (16 * n + o) := by
  unfold am_note
  by_cases hp : pl < 20
  · rw [if_pos hp, pu_nt_at pl fr rd F ho 16 (Nat.le_refl _)]
    by_cases h : n = pl ∧ am_hb fr o = true
    · rw [if_pos h, if_pos ⟨h.1, ho, h.2⟩]
    · rw [if_neg h, if_neg (fun q => h ⟨q.1, q.2.2⟩)]
  · rw [if_neg hp, if_neg (fun q => hp (by omega))]
section PS
variable (A : Nat → Int32) (rd : Int32) (H F : Nat → Int32)
theorem pu_se1 : ∀ p k, (am_it (am_seS A rd) (0, H, F) p).2.1 k = if k < p then H k ||| A k else H k := by
  intro p
  induction p with
  | zero => intro k; exact (if_neg (Nat.not_lt_zero _)).symm
  | succ p ih =>
    intro k
    rw [am_itS, am_seS_eq]
    have e : (am_it (am_seS A rd) (0, H, F) p).2.1 p = H p := by rw [ih, if_neg (Nat.lt_irrefl _)]
    have e2 : am_fr A (am_it (am_seS A rd) (0, H, F) p).2.1 p = A p &&& (H p ^^^ (-1)) := by unfold am_fr; rw [e]
    rw [e2]
    by_cases h0 : A p &&& (H p ^^^ (-1)) = 0
    · rw [if_pos h0, ih]
      by_cases hk : k = p
      · subst hk
        rw [if_neg (Nat.lt_irrefl _), if_pos (by omega), (pu_fr0 _ _).mp h0]
      · by_cases hk2 : k < p
        · rw [if_pos hk2, if_pos (by omega)]
        · rw [if_neg hk2, if_neg (by omega)]
    · rw [if_neg h0]
      show upd (am_it (am_seS A rd) (0, H, F) p).2.1 p _ k = _
      unfold upd
      by_cases hk : k = p
      · subst hk
        rw [if_pos rfl, if_pos (by omega), e, pu_or_fr]
      · rw [if_neg hk, ih]
        by_cases hk2 : k < p
        · rw [if_pos hk2, if_pos (by omega)]
        · rw [if_neg hk2, if_neg (by omega)]
theorem pu_se_fr (p : Nat) : am_fr A (am_it (am_seS A rd) (0, H, F) p).2.1 p = A p &&& (H p ^^^ (-1)) := by
  unfold am_fr
  rw [pu_se1, if_neg (Nat.lt_irrefl _)]
theorem pu_se0 : ∀ p, (am_it (am_seS A rd) (0, H, F) p).1 = 0 ↔ ∀ k, k < p → H k ||| A k = H k := by
  intro p
  induction p with
  | zero => exact ⟨fun _ k h => absurd h (Nat.not_lt_zero _), fun _ => rfl⟩
  | succ p ih =>
    rw [am_itS, am_seS_eq]
    have e := pu_se_fr A rd H F p
    rw [e]
    by_cases h0 : A p &&& (H p ^^^ (-1)) = 0
    · rw [if_pos h0, ih]
      constructor
      · intro h k hk
        by_cases hkp : k = p
        · subst hkp; exact (pu_fr0 _ _).mp h0
        · exact h k (by omega)
      · intro h k hk; exact h k (by omega)
    · rw [if_neg h0]
      constructor
      · intro h; exact absurd (show (1 : Int32) = 0 from h) (by decide)
      · intro h; exact absurd ((pu_fr0 _ _).mpr (h p (by omega))) h0
theorem pu_se2 {n o : Nat} (hn : n < 20) (ho : o < 16) : ∀ p, (am_it (am_seS A rd) (0, H, F) p).2.2 (16 * n + o) = if n < p ∧ am_hb (A n &&& (H n ^^^ (-1))) o = true then rd else F (16 * n + o) := by
  intro p
  induction p with
  | zero => exact (if_neg (fun h => absurd h.1 (Nat.not_lt_zero _))).symm
  | succ p ih =>
    rw [am_itS, am_seS_eq]
    have e := pu_se_fr A rd H F p
    rw [e]
    by_cases h0 : A p &&& (H p ^^^ (-1)) = 0
    · rw [if_pos h0, ih]
      by_cases h : n < p ∧ am_hb (A n &&& (H n ^^^ (-1))) o = true
      · rw [if_pos h, if_pos ⟨by omega, h.2⟩]
      · rw [if_neg h, if_neg ?_]
        rintro ⟨h1, h2⟩
        by_cases hnp : n = p
        · subst hnp
          rw [h0, pu_hb (by omega), b_0] at h2
          cases h2
        · exact h ⟨by omega, h2⟩
    · rw [if_neg h0]
      show am_note p _ rd _ (16 * n + o) = _
      rw [pu_note_at p _ rd _ hn ho, ih]
      by_cases hnp : n = p
      · subst hnp
        by_cases h2 : am_hb (A n &&& (H n ^^^ (-1))) o = true
        · rw [if_pos ⟨rfl, h2⟩, if_pos ⟨by omega, h2⟩]
        · rw [if_neg (fun q => h2 q.2), if_neg (fun q => absurd q.1 (Nat.lt_irrefl _)), if_neg (fun q => h2 q.2)]
      · rw [if_neg (fun q => hnp q.1)]
        by_cases h : n < p ∧ am_hb (A n &&& (H n ^^^ (-1))) o = true
        · rw [if_pos h, if_pos ⟨by omega, h.2⟩]
        · rw [if_neg h, if_neg (fun q => h ⟨by omega, q.2⟩)]
theorem pu_ad1 (N W : Nat → Int32) : ∀ p k, (am_it (pu_adS N) (0, W) p).2 k = if k < p then N k else W k := by
  intro p
  induction p with
  | zero => intro k; exact (if_neg (Nat.not_lt_zero _)).symm
  | succ p ih =>
    intro k
    rw [am_itS]
    show upd (am_it (pu_adS N) (0, W) p).2 p (N p) k = _
    unfold upd
    by_cases hk : k = p
    · subst hk; rw [if_pos rfl, if_pos (by omega)]
    · rw [if_neg hk, ih]
      by_cases hk2 : k < p
      · rw [if_pos hk2, if_pos (by omega)]
      · rw [if_neg hk2, if_neg (by omega)]
theorem pu_ad0 (N W : Nat → Int32) : ∀ p, (am_it (pu_adS N) (0, W) p).1 = 0 ↔ ∀ k, k < p → N k = W k := by
  intro p
  induction p with
  | zero => exact ⟨fun _ k h => absurd h (Nat.not_lt_zero _), fun _ => rfl⟩
  | succ p ih =>
    rw [am_itS]
    show (if (am_it (pu_adS N) (0, W) p).1 = 0 then (if N p = (am_it (pu_adS N) (0, W) p).2 p then 0 else 1) else 1) = 0 ↔ _
    rw [pu_ad1, if_neg (Nat.lt_irrefl _)]
    by_cases h : (am_it (pu_adS N) (0, W) p).1 = 0
    · rw [if_pos h]
      have ih := ih.mp h
      by_cases h2 : N p = W p
      · rw [if_pos h2]
        refine ⟨fun _ k hk => ?_, fun _ => rfl⟩
        by_cases hkp : k = p
        · subst hkp; exact h2
        · exact ih k (by omega)
      · rw [if_neg h2]
        exact ⟨fun q => absurd q (by decide), fun q => absurd (q p (by omega)) h2⟩
    · rw [if_neg h]
      exact ⟨fun q => absurd q (by decide), fun q => absurd (ih.mpr (fun k hk => q k (by omega))) h⟩
end PS
theorem pu_it_stop {α : Type} {f : Nat → α → α} {a : α} {n : Nat} (h : ∀ i b, n ≤ i → f i b = b) : ∀ d, am_it f a (n + d) = am_it f a n := by
  intro d
  induction d with
  | zero => rfl
  | succ d ih => rw [show n + (d + 1) = (n + d) + 1 from rfl, am_itS, h _ _ (by omega), ih]
section PT
variable {σ μ : Nat → Nat → Int32} {sr : Nat → Nat} {ln : Nat → Nat → Int32} {Lc O : Nat} {bk : Bool} {wo : Int32}
theorem pu_W_mono (k i : Nat) : ∀ d r, bt (pu_W σ sr ln Lc bk wo r k) i = true → bt (pu_W σ sr ln Lc bk wo (r + d) k) i = true := by
  intro d
  induction d with
  | zero => intro r h; exact h
  | succ d ih => intro r h; rw [show r + (d + 1) = (r + d) + 1 from rfl, pu_WS, b_or, ih r h]; rfl
theorem pu_it40 (hL : Lc ≤ 40) (W A : Nat → Int32) : am_it (am_lnX σ sr ln Lc bk wo W) A 40 = am_it (am_lnX σ sr ln Lc bk wo W) A Lc := by
  have e := pu_it_stop (f := am_lnX σ sr ln Lc bk wo W) (a := A) (n := Lc) (fun i b hi => if_neg (by omega)) (40 - Lc)
  rw [show Lc + (40 - Lc) = 40 by omega] at e
  exact e
theorem pu_itR (hwf : am_WF σ sr ln Lc) (W A : Nat → Int32) (k : Nat) : am_it (am_lnX σ sr ln Lc bk wo W) A Lc k = A k ||| pu_R σ sr ln Lc bk wo W k :=
  pu_it_lin (fun i => pu_lnX_lin hwf W i) Lc A k
/-- N is how many rounds add -/
def pu_isN (σ : Nat → Nat → Int32) (sr : Nat → Nat) (ln : Nat → Nat → Int32) (Lc : Nat) (bk : Bool) (wo : Int32) (N : Nat) : Prop := N < 1089 ∧ ¬ pu_ne σ sr ln Lc bk wo N ∧ ∀ r, r < N → pu_ne σ sr ln Lc bk wo r
theorem pu_isN_u {N M : Nat} (h : pu_isN σ sr ln Lc bk wo N) (g : pu_isN σ sr ln Lc bk wo M) : N = M := by
  rcases Nat.lt_trichotomy N M with q | q | q
  · exact absurd (g.2.2 N q) h.2.1
  · exact q
  · exact absurd (h.2.2 M q) g.2.1
theorem pu_stopN {N : Nat} (h : pu_isN σ sr ln Lc bk wo N) {k : Nat} (hk : k < 68) : pu_W σ sr ln Lc bk wo (N + 1) k = pu_W σ sr ln Lc bk wo N k := by
  apply Classical.byContradiction
  intro q
  exact h.2.1 ⟨k, hk, q⟩
/-- the first rounds as the class keeps them -/
def pu_F (σ : Nat → Nat → Int32) (sr : Nat → Nat) (ln : Nat → Nat → Int32) (Lc : Nat) (bk : Bool) (wo : Int32) (r : Nat) (F : Nat → Int32) : Prop := ∀ n o, n < 20 → o < 16 → ∀ t, t < r → am_hb (pu_W σ sr ln Lc bk wo t n) o = false → am_hb (pu_W σ sr ln Lc bk wo (t + 1) n) o = true → F (16 * n + o) = nI (t + 1)
theorem pu_ZS_eq (b r : Nat) : pu_Z σ sr ln Lc bk wo b (r + 1) = pu_ZS σ sr ln Lc bk wo r (pu_Z σ sr ln Lc bk wo b r) := rfl
theorem pu_ZA (hwf : am_WF σ sr ln Lc) {s : Int32 × (Nat → Int32) × (Nat → Int32) × (Nat → Int32)} {W : Nat → Int32} (hk : am_okW (am_kf σ bk) W) (h : ∀ k, k < 68 → s.2.1 k = W k) (k : Nat) : am_it (am_lnX σ sr ln Lc bk wo s.2.1) s.2.2.1 40 k = s.2.2.1 k ||| pu_R σ sr ln Lc bk wo W k := by
  rw [pu_it40 hwf.2.2.2.2.2.2, ← pu_itR hwf, pu_it_congr Lc (fun i b _ => (pu_lnX_congr hwf hk (fun k hk => (h k hk).symm) i b).symm)]
theorem pu_Z_inv (hwf : am_WF σ sr ln Lc) (hob : pu_ob sr ln Lc O) (b : Nat) : ∀ r, (∀ k, k < 68 → (pu_Z σ sr ln Lc bk wo b r).2.1 k = pu_W σ sr ln Lc bk wo r k) ∧ (∀ k, k < 68 → pu_W σ sr ln Lc bk wo r k ||| (pu_Z σ sr ln Lc bk wo b r).2.2.1 k = pu_W σ sr ln Lc bk wo r k) ∧ pu_F σ sr ln Lc bk wo r (pu_Z σ sr ln Lc bk wo b r).2.2.2 := by
  intro r
  induction r with
  | zero =>
    refine ⟨fun k hk => if_pos ⟨Nat.zero_le _, hk⟩, fun k hk => ?_, fun n o hn ho t ht => absurd ht (Nat.not_lt_zero _)⟩
    show 0 ||| am_fill (fun _ => 0) (σ (b + 3)) 68 0 k = 0
    rw [show am_fill (fun _ => 0) (σ (b + 3)) 68 0 k = 0 from if_pos ⟨Nat.zero_le _, hk⟩]
    rfl
  | succ r ih =>
    obtain ⟨i1, i2, i3⟩ := ih
    have hA := pu_ZA (wo := wo) hwf (pu_okW hwf hob.1 (fun k _ => pu_W_bd (bk := bk) (wo := wo) hwf hob r k)) i1
    rw [pu_ZS_eq]
    refine ⟨fun k hk => ?_, fun k hk => ?_, ?_⟩
    · show (am_it (am_seS _ (nI (r + 1))) (0, _, _) 68).2.1 k = _
      rw [pu_se1, if_pos hk, hA, i1 k hk, ← pu_or_assoc, i2 k hk, pu_WS]
    · show _ ||| am_it (am_lnX σ sr ln Lc bk wo _) _ 40 k = _
      rw [hA, pu_WS, pu_alg (i2 k hk)]
    · intro n o hn ho t ht h1 h2
      show (am_it (am_seS _ (nI (r + 1))) (0, _, _) 68).2.2 (16 * n + o) = _
      rw [pu_se2 _ _ _ _ hn ho, hA, i1 n (by omega), pu_hb (by omega), pu_bfr _ _ (by omega)]
      rw [pu_hb (by omega)] at h1 h2
      by_cases htr : t = r
      · subst htr
        have e : bt ((pu_Z σ sr ln Lc bk wo b t).2.2.1 n ||| pu_R σ sr ln Lc bk wo (pu_W σ sr ln Lc bk wo t) n) o = true := by
          rw [pu_WS, b_or, h1, Bool.false_or] at h2
          rw [b_or, h2, Bool.or_true]
        rw [if_pos ⟨by omega, by rw [e, h1]; rfl⟩]
      · have e := pu_W_mono n o (r - (t + 1)) (t + 1) h2
        rw [show t + 1 + (r - (t + 1)) = r by omega] at e
        rw [if_neg (fun q => by have := q.2; rw [e, Bool.not_true, Bool.and_false] at this; cases this)]
        exact i3 n o hn ho t (by omega) (by rw [pu_hb (by omega)]; exact h1) (by rw [pu_hb (by omega)]; exact h2)
theorem pu_Z_0 (hwf : am_WF σ sr ln Lc) (hob : pu_ob sr ln Lc O) (b r : Nat) : (pu_Z σ sr ln Lc bk wo b (r + 1)).1 = 0 ↔ ¬ pu_ne σ sr ln Lc bk wo r := by
  obtain ⟨i1, i2, -⟩ := pu_Z_inv (bk := bk) (wo := wo) hwf hob b r
  have hA := pu_ZA (wo := wo) hwf (pu_okW hwf hob.1 (fun k _ => pu_W_bd (bk := bk) (wo := wo) hwf hob r k)) i1
  rw [pu_ZS_eq]
  show (am_it (am_seS _ (nI (r + 1))) (0, _, _) 68).1 = 0 ↔ _
  rw [pu_se0]
  constructor
  · rintro h ⟨k, hk, q⟩
    have e := h k hk
    rw [hA, i1 k hk, ← pu_or_assoc, i2 k hk] at e
    exact q e
  · intro h k hk
    rw [hA, i1 k hk, ← pu_or_assoc, i2 k hk]
    apply Classical.byContradiction
    intro q
    exact h ⟨k, hk, q⟩
theorem pu_Y_nx (hwf : am_WF σ sr ln Lc) {W V N : Nat → Int32} (hk : am_okW (am_kf σ bk) V) (h : ∀ k, k < 68 → W k = V k) {k : Nat} (hk2 : k < 68) : pu_nx σ sr ln Lc bk wo W N k = V k ||| pu_R σ sr ln Lc bk wo V k := by
  unfold pu_nx
  rw [pu_it_congr Lc (fun i b _ => (pu_lnX_congr hwf hk (fun k hk => (h k hk).symm) i b).symm), pu_itR hwf]
  rw [show am_fill W N 68 0 k = V k from (if_pos ⟨Nat.zero_le _, hk2⟩).trans (h k hk2)]
theorem pu_Y_inv (hwf : am_WF σ sr ln Lc) (hob : pu_ob sr ln Lc O) (S N : Nat → Int32) : ∀ r k, k < 68 → (pu_Y σ sr ln Lc bk wo S N r).2.1 k = pu_W σ sr ln Lc bk wo r k := by
  intro r
  induction r with
  | zero => intro k hk; exact if_pos ⟨Nat.zero_le _, hk⟩
  | succ r ih =>
    intro k hk
    rw [pu_Y_S]
    show (am_it (pu_adS _) (0, _) 68).2 k = _
    rw [pu_ad1, if_pos hk, pu_Y_nx hwf (pu_okW hwf hob.1 (fun k _ => pu_W_bd (bk := bk) (wo := wo) hwf hob r k)) ih hk]
    rfl
theorem pu_Y_0 (hwf : am_WF σ sr ln Lc) (hob : pu_ob sr ln Lc O) (S N : Nat → Int32) (r : Nat) : (pu_Y σ sr ln Lc bk wo S N (r + 1)).1 = 0 ↔ ¬ pu_ne σ sr ln Lc bk wo r := by
  have ih := pu_Y_inv (bk := bk) (wo := wo) hwf hob S N r
  have hok := pu_okW hwf hob.1 (fun k _ => pu_W_bd (bk := bk) (wo := wo) hwf hob r k)
  rw [pu_Y_S]
  dsimp only [pu_YS]
  rw [pu_ad0]
  constructor
  · rintro h ⟨k, hk, q⟩
    have e := h k hk
    rw [pu_Y_nx hwf hok ih hk, ih k hk] at e
    exact q e
  · intro h k hk
    rw [pu_Y_nx hwf hok ih hk, ih k hk]
    apply Classical.byContradiction
    intro q
    exact h ⟨k, hk, q⟩
end PT
