/-! the rounds, pure: congruence, linearity, bounds -/
def pu_lin (T : (Nat → Int32) → (Nat → Int32)) : Prop := ∀ A k, T A k = A k ||| T (fun _ => 0) k
def pu_bdF (M : Nat) (A : Nat → Int32) : Prop := ∀ k, pu_bd M (A k)
def pu_bdS (M : Nat) (A : Nat → Int32) : Prop := ∀ k, k < 68 → pu_bd M (A k)
theorem pu_hat_congr {W V : Nat → Int32} (h : ∀ k, k < 68 → W k = V k) {p : Int32} (hp : am_pl 68 p) : am_hat W p = am_hat V p := by
  rcases hp with rfl | ⟨k, hk, rfl⟩
  · rw [am_hat_no, am_hat_no]
  · rw [am_hat_nI (by omega), am_hat_nI (by omega), h k hk]
theorem pu_it_congr {α : Type} {f g : Nat → α → α} {a : α} : ∀ n, (∀ i b, i < n → f i b = g i b) → am_it f a n = am_it g a n := by
  intro n
  induction n with
  | zero => intro _; rfl
  | succ n ih =>
    intro h
    rw [am_itS, am_itS, ih (fun i b hi => h i b (by omega)), h n _ (by omega)]
theorem pu_it_ind {α : Type} {P : α → Prop} {f : Nat → α → α} {a : α} (h0 : P a) : ∀ n, (∀ i b, i < n → P b → P (f i b)) → P (am_it f a n) := by
  intro n
  induction n with
  | zero => intro _; exact h0
  | succ n ih => intro h; rw [am_itS]; exact h n _ (by omega) (ih (fun i b hi => h i b (by omega)))
theorem pu_id_lin : pu_lin (fun A => A) := fun A k => (pu_or_zero _).symm
theorem pu_add_lin (p v : Int32) : pu_lin (fun A => am_add A p v) := by
  intro A k
  show am_add A p v k = A k ||| am_add (fun _ => 0) p v k
  unfold am_add
  by_cases h : p = -1
  · rw [if_pos h, if_pos h, pu_or_zero]
  · rw [if_neg h, if_neg h]
    unfold upd
    by_cases hk : k = p.toNatClampNeg
    · rw [if_pos hk, if_pos hk, pu_zero_or, hk]
    · rw [if_neg hk, if_neg hk, pu_or_zero]
theorem pu_lin_comp {S T : (Nat → Int32) → (Nat → Int32)} (hS : pu_lin S) (hT : pu_lin T) : pu_lin (fun A => S (T A)) := by
  intro A k
  show S (T A) k = A k ||| S (T (fun _ => 0)) k
  rw [hS (T A) k, hT A k, hS (T (fun _ => 0)) k, pu_or_assoc]
theorem pu_it_lin {f : Nat → (Nat → Int32) → (Nat → Int32)} (h : ∀ i, pu_lin (f i)) : ∀ n, pu_lin (fun A => am_it f A n) := by
  intro n
  induction n with
  | zero => exact pu_id_lin
  | succ n ih => exact pu_lin_comp (h n) ih
theorem pu_bd_hat {M : Nat} {W : Nat → Int32} (h : pu_bdS M W) {p : Int32} (hp : am_pl 68 p) : pu_bd M (am_hat W p) := by
  rcases hp with rfl | ⟨k, hk, rfl⟩
  · rw [am_hat_no]; exact pu_bd0 M
  · rw [am_hat_nI (by omega)]; exact h k hk
theorem pu_bd_add {M : Nat} {A : Nat → Int32} (h : pu_bdF M A) {p v : Int32} (hv : pu_bd M v) : pu_bdF M (am_add A p v) := by
  unfold am_add
  split
  · exact h
  · intro k
    unfold upd
    split
    · exact pu_bd_or (h _) hv
    · exact h k
theorem pu_bd_hb {M : Nat} {v : Int32} (h : pu_bd M v) {p : Nat} (hp : p < 32) (hb : am_hb v p = true) : p < M := h p hp (by rw [← pu_hb hp]; exact hb)
theorem pu_okM {M : Nat} {W : Nat → Int32} (h : pu_bdS M W) : am_okM M W := fun _ hx p hp hb => pu_bd_hb (pu_bd_hat h hx) (by omega) hb
section PR
variable {kf ab ow ro f : Nat → Int32} {bk : Bool} {s : Nat}
theorem pu_rd_congr {W V : Nat → Int32} (h : ∀ k, k < 68 → W k = V k) (m x : Int32) {n : Nat} (hn : n < 3) (A : Nat → Int32) : ∀ c, c ≤ 16 → am_it (am_rdS W m x n) A c = am_it (am_rdS V m x n) A c := by
  intro c hc
  refine pu_it_congr c (fun o B ho => ?_)
  unfold am_rdS
  rw [pu_hat_congr h (am_pl_nI (by omega))]
theorem pu_ca_congr {W V : Nat → Int32} (hab : am_wab ab) (how : ∀ p, p < 24 → am_pl 6 (ow p)) (hro : ∀ p, p < 18 → am_pl 20 (ro p)) (h : ∀ k, k < 68 → W k = V k) (m : Int32) (hk : ∀ p, p < 16 → am_hb m p = true → am_pl 8 (kf p)) (h7 : am_pl 68 (f 7)) {n : Nat} (hn : n < 3) (A : Nat → Int32) : ∀ c, c ≤ 16 → am_it (am_caS kf ab ow ro W f m n) A c = am_it (am_caS kf ab ow ro V f m n) A c := by
  intro c hc
  refine pu_it_congr c (fun o B ho => ?_)
  unfold am_caS
  cases hb : am_hb m o with
  | false => rfl
  | true =>
    rw [cond_true, cond_true]
    unfold am_clS
    by_cases hg : am_aimF ab ow n 9 (kf o) = -1
    · rw [if_pos hg, if_pos hg]
    · obtain ⟨q, hq, e2⟩ := (am_aimF_pl hab how hn 9 _ (hk o (by omega) hb)).resolve_left hg
      rw [if_neg hg, if_neg hg, e2, nI_clamp (by omega), pu_hat_congr h h7, pu_hat_congr h (am_pl_mono (hro (3 * q + 2) (by omega)) (by decide))]
theorem pu_alw_congr (hw : am_wl s f) (hs : s < 6) (hab : am_wab ab) (how : ∀ p, p < 24 → am_pl 6 (ow p)) (hro : ∀ p, p < 18 → am_pl 20 (ro p)) {W V : Nat → Int32} (hk : am_okW kf W) (h : ∀ k, k < 68 → W k = V k) (A : Nat → Int32) : am_alw kf ab ow ro bk s f W A = am_alw kf ab ow ro bk s f V A := by
  obtain ⟨⟨a, ha, h0⟩, h1, -, -, hn3, -, -, h7, -, -⟩ := hw
  have h0 : am_pl 68 (f 0) := Or.inr ⟨a, by omega, h0⟩
  have h1 : am_pl 68 (f 1) := am_pl_mono h1 (by decide)
  match s, hs with
  | 0, _ => rw [am_alw_0, am_alw_0, pu_hat_congr h h1]
  | 1, _ => rw [am_alw_1, am_alw_1, pu_hat_congr h h1]
  | 2, _ =>
    obtain ⟨n, hn, e⟩ := hn3 (by decide) (by decide)
    rw [am_alw_2, am_alw_2, pu_hat_congr h h1, e, nI_clamp (by omega)]
    exact pu_rd_congr h _ _ hn A 16 (Nat.le_refl _)
  | 3, _ => rw [am_alw_3, am_alw_3, pu_hat_congr h h1, pu_hat_congr h h0]
  | 4, _ =>
    obtain ⟨n, hn, e⟩ := hn3 (by decide) (by decide)
    obtain ⟨z, hz, h7⟩ := h7 rfl
    rw [am_alw_4, am_alw_4, ← pu_hat_congr h h1, e, nI_clamp (by omega)]
    exact pu_ca_congr hab how hro h _ (hk _ h1) (Or.inr ⟨z, by omega, h7⟩) hn A 16 (Nat.le_refl _)
  | 5, _ => rw [am_alw_5, am_alw_5]
theorem pu_clS_lin (W : Nat → Int32) (g : Int32) (o : Nat) : pu_lin (am_clS ro W f g o) := by
  by_cases hg : g = -1
  · have e : am_clS ro W f g o = fun B => B := by funext B; exact if_pos hg
    rw [e]; exact pu_id_lin
  · have e : am_clS ro W f g o = fun B => am_add (am_add (am_add B (ro (3 * g.toNatClampNeg + 0)) (1 <<< (nI o &&& 31))) (ro (3 * g.toNatClampNeg + 1)) (am_hat W (f 7))) (f 0) (am_hat W (ro (3 * g.toNatClampNeg + 2))) := by funext B; exact if_neg hg
    rw [e]
    exact pu_lin_comp (pu_add_lin _ _) (pu_lin_comp (pu_add_lin _ _) (pu_add_lin _ _))
theorem pu_rdS_lin (W : Nat → Int32) (m x : Int32) (n o : Nat) : pu_lin (am_rdS W m x n o) := by
  cases hb : am_hb m o with
  | true =>
    have e : am_rdS W m x n o = fun B => am_add B x (am_hat W (nI (20 + 3 * o + n))) := by funext B; unfold am_rdS; rw [hb]; rfl
    rw [e]; exact pu_add_lin _ _
  | false =>
    have e : am_rdS W m x n o = fun B => B := by funext B; unfold am_rdS; rw [hb]; rfl
    rw [e]; exact pu_id_lin
theorem pu_wrS_lin (m v : Int32) (n o : Nat) : pu_lin (am_wrS m v n o) := by
  cases hb : am_hb m o with
  | true =>
    have e : am_wrS m v n o = fun B => am_add B (nI (20 + 3 * o + n)) v := by funext B; unfold am_wrS; rw [hb]; rfl
    rw [e]; exact pu_add_lin _ _
  | false =>
    have e : am_wrS m v n o = fun B => B := by funext B; unfold am_wrS; rw [hb]; rfl
    rw [e]; exact pu_id_lin
theorem pu_caS_lin (W : Nat → Int32) (m : Int32) (n o : Nat) : pu_lin (am_caS kf ab ow ro W f m n o) := by
  cases hb : am_hb m o with
  | true =>
    have e : am_caS kf ab ow ro W f m n o = am_clS ro W f (am_aimF ab ow n 9 (kf o)) o := by funext B; unfold am_caS; rw [hb]; rfl
    rw [e]; exact pu_clS_lin _ _ _
  | false =>
    have e : am_caS kf ab ow ro W f m n o = fun B => B := by funext B; unfold am_caS; rw [hb]; rfl
    rw [e]; exact pu_id_lin
theorem pu_alw_lin (hs : s < 6) (W : Nat → Int32) : pu_lin (am_alw kf ab ow ro bk s f W) := by
  match s, hs with
  | 0, _ => exact pu_add_lin _ _
  | 1, _ => exact pu_add_lin _ _
  | 2, _ =>
    have e : am_alw kf ab ow ro bk 2 f W = fun A => am_it (am_rdS W (am_hat W (f 1)) (f 0) (f 2).toNatClampNeg) A 16 := by funext A; exact am_alw_2
    rw [e]; exact pu_it_lin (fun o => pu_rdS_lin _ _ _ _ o) 16
  | 3, _ =>
    have e : am_alw kf ab ow ro bk 3 f W = fun A => am_it (am_wrS (am_hat W (f 0)) (am_hat W (f 1)) (f 2).toNatClampNeg) A 16 := by funext A; exact am_alw_3
    rw [e]; exact pu_it_lin (fun o => pu_wrS_lin _ _ _ o) 16
  | 4, _ =>
    have e : am_alw kf ab ow ro bk 4 f W = fun A => am_it (am_caS kf ab ow ro W f (am_hat W (f 1)) (f 2).toNatClampNeg) A 16 := by funext A; exact am_alw_4
    rw [e]; exact pu_it_lin (fun o => pu_caS_lin _ _ _ o) 16
  | 5, _ => exact pu_add_lin _ _
theorem pu_bd_orF {M : Nat} {g : Nat → Int32} : ∀ n, (∀ i, i < n → pu_bd M (g i)) → pu_bd M (am_orF g n) := by
  intro n
  induction n with
  | zero => intro _; exact pu_bd0 M
  | succ n ih => intro h; exact pu_bd_or (ih (fun i hi => h i (by omega))) (h n (by omega))
theorem pu_alw_bd {M : Nat} (hw : am_wl s f) (hs : s < 6) (hM5 : s = 5 → ∃ o, o < M ∧ o < 32 ∧ (bif bk then f 2 else f 7) = nI o) (hab : am_wab ab) (how : ∀ p, p < 24 → am_pl 6 (ow p)) (hro : ∀ p, p < 18 → am_pl 20 (ro p)) {W : Nat → Int32} (hk : am_okW kf W) (hW : pu_bdS M W) {A : Nat → Int32} (hA : pu_bdF M A) : pu_bdF M (am_alw kf ab ow ro bk s f W A) := by
  obtain ⟨⟨a, ha, h0⟩, h1, -, -, hn3, -, -, h7, -, -⟩ := hw
  have h0 : am_pl 68 (f 0) := Or.inr ⟨a, by omega, h0⟩
  have h1 : am_pl 68 (f 1) := am_pl_mono h1 (by decide)
  match s, hs with
  | 0, _ => exact pu_bd_add hA (pu_bd_hat hW h1)
  | 1, _ =>
    refine pu_bd_add hA (pu_bd_orF 16 (fun i hi => ?_))
    unfold am_okF
    split
    · rename_i hb
      cases am_undF ab (f 2) 9 (kf i) with
      | true => exact pu_bd_one (pu_bd_hb (pu_bd_hat hW h1) (by omega) (decide_eq_true hb)) (by omega)
      | false => exact pu_bd0 M
    · exact pu_bd0 M
  | 2, _ =>
    obtain ⟨n, hn, e⟩ := hn3 (by decide) (by decide)
    rw [am_alw_2, e, nI_clamp (by omega)]
    refine pu_it_ind (P := pu_bdF M) hA 16 (fun o B ho hB => ?_)
    unfold am_rdS
    cases am_hb (am_hat W (f 1)) o with
    | true => exact pu_bd_add hB (pu_bd_hat hW (am_pl_nI (by omega)))
    | false => exact hB
  | 3, _ =>
    rw [am_alw_3]
    refine pu_it_ind (P := pu_bdF M) hA 16 (fun o B ho hB => ?_)
    unfold am_wrS
    cases am_hb (am_hat W (f 0)) o with
    | true => exact pu_bd_add hB (pu_bd_hat hW h1)
    | false => exact hB
  | 4, _ =>
    obtain ⟨n, hn, e⟩ := hn3 (by decide) (by decide)
    obtain ⟨z, hz, h7⟩ := h7 rfl
    rw [am_alw_4, e, nI_clamp (by omega)]
    refine pu_it_ind (P := pu_bdF M) hA 16 (fun o B ho hB => ?_)
    unfold am_caS
    cases hb : am_hb (am_hat W (f 1)) o with
    | false => exact hB
    | true =>
      rw [cond_true]
      unfold am_clS
      split
      · exact hB
      · rename_i hg
        obtain ⟨q, hq, e2⟩ := (am_aimF_pl hab how hn 9 _ (hk _ h1 o ho hb)).resolve_left hg
        rw [e2, nI_clamp (by omega)]
        exact pu_bd_add (pu_bd_add (pu_bd_add hB (pu_bd_one (pu_bd_hb (pu_bd_hat hW h1) (by omega) hb) (by omega))) (pu_bd_hat hW (Or.inr ⟨z, by omega, h7⟩))) (pu_bd_hat hW (am_pl_mono (hro (3 * q + 2) (by omega)) (by decide)))
  | 5, _ =>
    obtain ⟨o, h1, h2, h3⟩ := hM5 rfl
    rw [am_alw_5, h3]
    exact pu_bd_add hA (pu_bd_one h1 h2)
end PR
section PZ
variable {σ μ : Nat → Nat → Int32} {sr : Nat → Nat} {ln : Nat → Nat → Int32} {Lc O : Nat} {bk : Bool} {wo : Int32}
/-- the objects of MAKEs are below O -/
def pu_ob (sr : Nat → Nat) (ln : Nat → Nat → Int32) (Lc O : Nat) : Prop := O ≤ 16 ∧ ∀ l, l < Lc → sr l = 5 → ∃ o, o < O ∧ ln l 7 = nI o
theorem pu_bM (hO : O ≤ 16) : am_bM bk O ≤ 16 := by
  cases bk with
  | true => exact (by decide : 8 ≤ 16)
  | false => exact hO
theorem pu_okW (hwf : am_WF σ sr ln Lc) (hO : O ≤ 16) {W : Nat → Int32} (h : pu_bdS (am_bM bk O) W) : am_okW (am_kf σ bk) W := am_okW_of hwf hO (pu_okM h)
theorem pu_lnX_congr (hwf : am_WF σ sr ln Lc) {W V : Nat → Int32} (hk : am_okW (am_kf σ bk) W) (h : ∀ k, k < 68 → W k = V k) (i : Nat) (A : Nat → Int32) : am_lnX σ sr ln Lc bk wo W i A = am_lnX σ sr ln Lc bk wo V i A := by
  unfold am_lnX
  split
  · rename_i hi
    rw [pu_alw_congr (hwf.2.2.2.2.2.1 i hi) (hwf.2.2.2.2.1 i hi) hwf.1 hwf.2.1 hwf.2.2.1 hk h]
  · rfl
theorem pu_lnX_lin (hwf : am_WF σ sr ln Lc) (W : Nat → Int32) (i : Nat) : pu_lin (am_lnX σ sr ln Lc bk wo W i) := by
  by_cases hi : i < Lc
  · by_cases h1 : nI i = wo
    · have e : am_lnX σ sr ln Lc bk wo W i = fun A => A := by funext A; exact (if_pos hi).trans (if_pos h1)
      rw [e]; exact pu_id_lin
    · by_cases h2 : ln i 6 = 0
      · have e : am_lnX σ sr ln Lc bk wo W i = fun A => A := by funext A; exact (if_pos hi).trans ((if_neg h1).trans (if_pos h2))
        rw [e]; exact pu_id_lin
      · have e : am_lnX σ sr ln Lc bk wo W i = am_alw (am_kf σ bk) (σ 1) (σ 2) (σ 3) bk (sr i) (ln i) W := by funext A; exact (if_pos hi).trans ((if_neg h1).trans (if_neg h2))
        rw [e]; exact pu_alw_lin (hwf.2.2.2.2.1 i hi) W
  · have e : am_lnX σ sr ln Lc bk wo W i = fun A => A := by funext A; exact if_neg hi
    rw [e]; exact pu_id_lin
theorem pu_lnX_bd (hwf : am_WF σ sr ln Lc) (hob : pu_ob sr ln Lc O) {W : Nat → Int32} (hW : pu_bdS (am_bM bk O) W) {i : Nat} {A : Nat → Int32} (hA : pu_bdF (am_bM bk O) A) : pu_bdF (am_bM bk O) (am_lnX σ sr ln Lc bk wo W i A) := by
  unfold am_lnX
  split
  · rename_i hi
    split
    · exact hA
    · split
      · exact hA
      · refine pu_alw_bd (hwf.2.2.2.2.2.1 i hi) (hwf.2.2.2.2.1 i hi) (fun h5 => ?_) hwf.1 hwf.2.1 hwf.2.2.1 (pu_okW hwf hob.1 hW) hW hA
        cases bk with
        | true =>
          obtain ⟨n, hn, e⟩ := (hwf.2.2.2.2.2.1 i hi).2.2.2.2.2.1 (Or.inr h5)
          exact ⟨n, hn, by omega, e⟩
        | false =>
          obtain ⟨o, ho, e⟩ := hob.2 i hi h5
          exact ⟨o, ho, by have := hob.1; omega, e⟩
  · exact hA
/-- what one round allows, and the sets after r rounds -/
def pu_R (σ : Nat → Nat → Int32) (sr : Nat → Nat) (ln : Nat → Nat → Int32) (Lc : Nat) (bk : Bool) (wo : Int32) (W : Nat → Int32) : Nat → Int32 := am_it (am_lnX σ sr ln Lc bk wo W) (fun _ => 0) Lc
def pu_W (σ : Nat → Nat → Int32) (sr : Nat → Nat) (ln : Nat → Nat → Int32) (Lc : Nat) (bk : Bool) (wo : Int32) : Nat → Nat → Int32
  | 0 => fun _ => 0
  | r + 1 => fun k => pu_W σ sr ln Lc bk wo r k ||| pu_R σ sr ln Lc bk wo (pu_W σ sr ln Lc bk wo r) k
theorem pu_WS (r k : Nat) : pu_W σ sr ln Lc bk wo (r + 1) k = pu_W σ sr ln Lc bk wo r k ||| pu_R σ sr ln Lc bk wo (pu_W σ sr ln Lc bk wo r) k := rfl
theorem pu_R_bd (hwf : am_WF σ sr ln Lc) (hob : pu_ob sr ln Lc O) {W : Nat → Int32} (hW : pu_bdS (am_bM bk O) W) : pu_bdF (am_bM bk O) (pu_R σ sr ln Lc bk wo W) :=
  pu_it_ind (P := pu_bdF (am_bM bk O)) (fun k => pu_bd0 _) Lc (fun i B _ hB => pu_lnX_bd hwf hob hW hB)
theorem pu_W_bd (hwf : am_WF σ sr ln Lc) (hob : pu_ob sr ln Lc O) : ∀ r, pu_bdF (am_bM bk O) (pu_W σ sr ln Lc bk wo r) := by
  intro r
  induction r with
  | zero => intro k; exact pu_bd0 _
  | succ r ih => intro k; exact pu_bd_or (ih k) (pu_R_bd hwf hob (fun j _ => ih j) k)
theorem pu_R_congr (hwf : am_WF σ sr ln Lc) {W V : Nat → Int32} (hk : am_okW (am_kf σ bk) W) (h : ∀ k, k < 68 → W k = V k) : pu_R σ sr ln Lc bk wo W = pu_R σ sr ln Lc bk wo V :=
  pu_it_congr Lc (fun i b _ => pu_lnX_congr hwf hk h i b)
/-- whether a round adds -/
def pu_ne (σ : Nat → Nat → Int32) (sr : Nat → Nat) (ln : Nat → Nat → Int32) (Lc : Nat) (bk : Bool) (wo : Int32) (r : Nat) : Prop := ∃ k, k < 68 ∧ ¬ pu_W σ sr ln Lc bk wo (r + 1) k = pu_W σ sr ln Lc bk wo r k
theorem pu_ne_dec (r : Nat) : pu_ne σ sr ln Lc bk wo r ∨ ¬ pu_ne σ sr ln Lc bk wo r := Classical.em _
theorem pu_bd16 {M : Nat} (hM : M ≤ 16) {a b : Int32} (ha : pu_bd M a) (hb : pu_bd M b) (h : ¬ a ||| b = a) : ∃ i, i < 16 ∧ bt a i = false ∧ bt (a ||| b) i = true := by
  apply Classical.byContradiction
  intro hx
  apply h
  apply b_ext
  intro i hi
  cases e : bt a i with
  | true => rw [b_or, e]; rfl
  | false =>
    cases e2 : bt (a ||| b) i with
    | false => rfl
    | true =>
      have := pu_bd_or ha hb i hi e2
      exact absurd ⟨i, by omega, e, e2⟩ hx
theorem pu_grow (hwf : am_WF σ sr ln Lc) (hob : pu_ob sr ln Lc O) {r : Nat} (h : pu_ne σ sr ln Lc bk wo r) : pu_ct (pu_W σ sr ln Lc bk wo r) 68 < pu_ct (pu_W σ sr ln Lc bk wo (r + 1)) 68 := by
  refine pu_ct_lt 68 (fun j _ i _ hb => ?_) ?_
  · rw [pu_WS, b_or, hb]; rfl
  · obtain ⟨k, hk, hne⟩ := h
    rw [pu_WS] at hne
    obtain ⟨i, hi, h1, h2⟩ := pu_bd16 (pu_bM (bk := bk) hob.1) (pu_W_bd hwf hob r k) (pu_R_bd hwf hob (fun j _ => pu_W_bd hwf hob r j) k) hne
    exact ⟨k, hk, i, hi, h1, h2⟩
/-- how many rounds add -/
theorem pu_N (hwf : am_WF σ sr ln Lc) (hob : pu_ob sr ln Lc O) (bk : Bool) (wo : Int32) : ∃ N, N < 1089 ∧ ¬ pu_ne σ sr ln Lc bk wo N ∧ ∀ r, r < N → pu_ne σ sr ln Lc bk wo r := by
  rcases pu_first (pu_ne σ sr ln Lc bk wo) (fun r => pu_ne_dec r) 1089 with h | h
  · exfalso
    have key : ∀ r, r ≤ 1089 → r ≤ pu_ct (pu_W σ sr ln Lc bk wo r) 68 := by
      intro r
      induction r with
      | zero => intro _; exact Nat.zero_le _
      | succ r ih =>
        intro hr
        have h1 := ih (by omega)
        have h2 := pu_grow hwf hob (h r (by omega))
        omega
    have h1 := key 1089 (Nat.le_refl _)
    have h2 := pu_ct_le (pu_W σ sr ln Lc bk wo 1089) 68
    omega
  · exact h
end PZ
