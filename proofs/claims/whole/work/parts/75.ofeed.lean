/-! feed -/
theorem rl_255 (x : Int32) : ∃ c, c < 256 ∧ x &&& 255 = nI c := by
  have hlt : (x &&& 255).toBitVec.toNat < 256 := by
    show (x.toBitVec &&& 255#32).toNat < 256
    rw [BitVec.toNat_and]
    exact Nat.lt_of_le_of_lt Nat.and_le_right (by decide)
  refine ⟨(x &&& 255).toBitVec.toNat, hlt, ?_⟩
  apply Int32.toBitVec_inj.mp
  apply BitVec.eq_of_toNat_eq
  show _ = (BitVec.ofNat 32 (x &&& 255).toBitVec.toNat).toNat
  rw [BitVec.toNat_ofNat, Nat.mod_eq_of_lt (by omega)]
theorem fb_s1 : ∀ i, i < 8 → (((8 * nI i).toInt64.toUInt64 &&& Int64.toUInt64 63).toBitVec % 64#64).toNat = 8 * i := by decide +kernel
theorem fb_s2 : ∀ i, i < 8 → ((((8 * nI i).toInt64 &&& 63)).toBitVec.smod 64#64).toNat = 8 * i := by decide +kernel
theorem fb_255 : ∀ j, j < 32 → bt 255 j = decide (j < 8) := by decide +kernel
theorem fb_255L : ∀ j, j < 32 → (255#64).getLsbD j = decide (j < 8) := by decide +kernel
theorem pu_fb_bt (w : Int64) {i : Nat} (hi : i < 8) : pu_fb w i = am_bt w i := by
  apply b_ext
  intro j hj
  unfold pu_fb am_bt
  rw [b_and, fb_255 j hj]
  have e1 : bt ((w.toUInt64 >>> ((8 * nI i).toInt64.toUInt64 &&& Int64.toUInt64 63)).toInt64.toInt32) j = (BitVec.signExtend 32 (w.toBitVec >>> ((((8 * nI i).toInt64.toUInt64 &&& Int64.toUInt64 63).toBitVec % 64#64).toNat))).getLsbD j := rfl
  have e2 : bt (((w >>> ((8 * nI i).toInt64 &&& 63)) &&& 255).toInt32) j = (BitVec.signExtend 32 ((w.toBitVec.sshiftRight ((((8 * nI i).toInt64 &&& 63)).toBitVec.smod 64#64).toNat) &&& 255#64)).getLsbD j := rfl
  rw [e1, e2, fb_s1 i hi, fb_s2 i hi, BitVec.getLsbD_signExtend, BitVec.getLsbD_signExtend, decide_eq_true hj, Bool.true_and, Bool.true_and, if_pos (by omega), if_pos (by omega), BitVec.getLsbD_and, fb_255L j hj, BitVec.getLsbD_ushiftRight, BitVec.getLsbD_sshiftRight]
  by_cases h8 : j < 8
  · rw [decide_eq_true h8, Bool.and_true, Bool.and_true]
    rw [if_pos (by omega), decide_eq_false (by omega), Bool.not_false, Bool.true_and]
  · rw [decide_eq_false h8, Bool.and_false, Bool.and_false]
theorem am_b18 {n : Int32} : decide ((1 : Int64) ≤ n.toInt64 ∧ n.toInt64 ≤ 8) = decide ((1 : Int32) ≤ n ∧ n ≤ 8) := by
  congr 1
  rw [Int64.le_iff_toInt_le, Int64.le_iff_toInt_le, Int32.toInt_toInt64, Int32.le_iff_toInt_le, Int32.le_iff_toInt_le]
  rw [show (1 : Int64).toInt = 1 by decide, show (8 : Int64).toInt = 8 by decide, show (1 : Int32).toInt = 1 by decide, show (8 : Int32).toInt = 8 by decide]
section OF
variable {xs : Nat → Int32} {LL : Nat} {σ τ μ : Nat → Nat → Int32} {sr : Nat → Nat} {ln lm : Nat → Nat → Int32} {Lc O T : Nat}
theorem rl_tapeN {n : Nat} {F G : Nat → Int32} {f g : Nat → Int32} (hT : rl_tape σ μ T) (hn : T + n ≤ 20) (hF : F = am_fill (fun k => f (k - T)) (σ 7) (T + n) T) (hG : G = am_fill (fun k => g (k - T)) (μ 20) (T + n) T) (hfg : ∀ i, i < n → g i = f i) (hb : ∀ i, i < n → ∃ c, c < 256 ∧ f i = nI c) : (∀ i, i < T + n → G i = F i) ∧ (∀ i, i < T + n → ∃ c, c < 256 ∧ F i = nI c) := by
  subst hF; subst hG
  obtain ⟨h20, t1, t2, t3, t4⟩ := hT
  constructor
  · intro i hi
    show (if T ≤ i ∧ i < T + n then g (i - T) else μ 20 i) = (if T ≤ i ∧ i < T + n then f (i - T) else σ 7 i)
    by_cases h : T ≤ i
    · rw [if_pos ⟨h, hi⟩, if_pos ⟨h, hi⟩, hfg _ (by omega)]
    · rw [if_neg (fun q => h q.1), if_neg (fun q => h q.1), t3 i (by omega)]
  · intro i hi
    show ∃ c, c < 256 ∧ (if T ≤ i ∧ i < T + n then f (i - T) else σ 7 i) = nI c
    by_cases h : T ≤ i
    · rw [if_pos ⟨h, hi⟩]; exact hb _ (by omega)
    · rw [if_neg (fun q => h q.1)]; exact t4 i (by omega)
theorem op_feed (h : rl_ σ sr ln Lc μ O T) (n : Int32) (w : Int64) : op_I xs LL 93 156 [.int n, .long w] σ sr ln Lc μ := by
  have h' := h
  obtain ⟨hWF, hRK, hRL, hRO, hT, hM, hS, h10, h20⟩ := h'
  have hT' := hT
  obtain ⟨t20, t1, t2, t3, t4⟩ := hT'
  cases hb : decide ((1 : Int32) ≤ n ∧ n ≤ 8) with
  | false => exact op_same h (-2) (sp_X11_feed_bad 9 n w hb) (sp_X12_feed_bad 9 n w (by rw [am_b18]; exact hb))
  | true =>
    have hb2 := of_decide_eq_true hb
    obtain ⟨n, hn8, rfl⟩ : ∃ k, k < 9 ∧ n = nI k := am_in_nI (am_in_iff.mpr ⟨by have := Int32.le_iff_toInt_le.mp hb2.1; rw [show (1 : Int32).toInt = 1 by decide] at this; omega, by have := Int32.le_iff_toInt_le.mp hb2.2; rw [show (8 : Int32).toInt = 8 by decide] at this; omega⟩)
    have h1 : 1 ≤ n := by
      rcases Nat.lt_or_ge n 1 with q | q
      · exfalso
        have e : n = 0 := by omega
        subst e
        exact absurd hb2.1 (by decide)
      · exact q
    by_cases hr : T + n ≤ 20
    · obtain ⟨ta, tb⟩ := rl_tapeN hT hr (f := pu_fb w) (g := am_bt w) rfl rfl (fun i hi => (pu_fb_bt w (by omega)).symm) (fun i _ => rl_255 _)
      refine ⟨_, _, _, _, _, _, O, T + n, sp_X11_feed_ok 9 n w h1 (by omega) t1 t20 hr, sp_X12_feed_ok 9 t2 t20 n w h1 (by omega) hr, hWF, hRK, hRL, hRO, ⟨hr, rfl, rfl, ta, tb⟩, hM, hS, rl_set_fr (σ := σ) rfl rfl rfl rfl rfl rfl rfl rfl rfl h10, rl_set_fr (σ := σ) rfl rfl rfl rfl rfl rfl rfl rfl rfl h20⟩
    · exact op_same h (-4) (sp_X11_feed_full 9 n w h1 (by omega) t1 t20 (by omega)) (sp_X12_feed_full 9 t2 t20 (nI n) w (by rw [am_b18]; exact hb) (by rw [t2, nI_add]; exact nI_lt (a := 20) (by omega) (by omega)))
end OF
