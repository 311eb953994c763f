/-! the law's loop: all calls, all steps -/
section LW2
variable {xs : Nat → Int32} {LL : Nat} {σ σ2 μ μ2 : Nat → Nat → Int32} {sr sr2 : Nat → Nat} {ln ln2 : Nat → Nat → Int32} {Lc Lc2 O T O2 T2 : Nat}
theorem law_step (h : rl_ σ sr ln Lc μ O T) (i : Nat) (hi : i + 6 ≤ LL) (hL : LL ≤ 3072) : ∃ (σ2 : Nat → Nat → Int32) (sr2 : Nat → Nat) (ln2 : Nat → Nat → Int32) (Lc2 : Nat) (μ2 : Nat → Nat → Int32) (O2 T2 : Nat), rl_ σ2 sr2 ln2 Lc2 μ2 O2 T2 ∧ ∀ h', am_R xs LL cd_L_law (am_X xs LL 11) 1277 [some (.ref 0), some (.ref 14), some (.ref 47), some (.int (nI i))] [] (hG σ2 sr2 ln2 Lc2 μ2) (some (.int 1)) h' → am_R xs LL cd_L_law (am_X xs LL 11) 27 [some (.ref 0), some (.ref 14), some (.ref 47), some (.int (nI i))] [] (hG σ sr ln Lc μ) (some (.int 1)) h' := by
  obtain ⟨k, hk, hv⟩ := rl_63 (xs i)
  by_cases h34 : k < 34
  · match k, h34 with
    | 0, _ =>
      obtain ⟨x, σ2, sr2, ln2, Lc2, μ2, O2, T2, r1, r2, r3⟩ := op_kind (xs := xs) (LL := LL) h (xs (i + 1))
      exact ⟨σ2, sr2, ln2, Lc2, μ2, O2, T2, r3, fun h' kk => law_0 i hi hL hv r1 r2 kk⟩
    | 1, _ =>
      obtain ⟨x, σ2, sr2, ln2, Lc2, μ2, O2, T2, r1, r2, r3⟩ := op_has (xs := xs) (LL := LL) h (xs (i + 1)) (xs (i + 2)) (xs (i + 3))
      exact ⟨σ2, sr2, ln2, Lc2, μ2, O2, T2, r3, fun h' kk => law_1 i hi hL hv r1 r2 kk⟩
    | 2, _ =>
      obtain ⟨x, σ2, sr2, ln2, Lc2, μ2, O2, T2, r1, r2, r3⟩ := op_aim (xs := xs) (LL := LL) h (xs (i + 1)) (xs (i + 2))
      exact ⟨σ2, sr2, ln2, Lc2, μ2, O2, T2, r3, fun h' kk => law_2 i hi hL hv r1 r2 kk⟩
    | 3, _ =>
      obtain ⟨x, σ2, sr2, ln2, Lc2, μ2, O2, T2, r1, r2, r3⟩ := op_names (xs := xs) (LL := LL) h (xs (i + 1)) (xs (i + 2)) (xs (i + 3)) (xs (i + 4))
      exact ⟨σ2, sr2, ln2, Lc2, μ2, O2, T2, r3, fun h' kk => law_3 i hi hL hv r1 r2 kk⟩
    | 4, _ =>
      obtain ⟨x, σ2, sr2, ln2, Lc2, μ2, O2, T2, r1, r2, r3⟩ := op_under (xs := xs) (LL := LL) h (xs (i + 1)) (xs (i + 2))
      exact ⟨σ2, sr2, ln2, Lc2, μ2, O2, T2, r3, fun h' kk => law_4 i hi hL hv r1 r2 kk⟩
    | 5, _ =>
      obtain ⟨x, σ2, sr2, ln2, Lc2, μ2, O2, T2, r1, r2, r3⟩ := op_feed (xs := xs) (LL := LL) h (xs (i + 1)) ((((xs (i + 2)).toInt64) <<< ((32 : Int32).toInt64 &&& 63)) ||| (((xs (i + 3)).toInt64) &&& 4294967295))
      exact ⟨σ2, sr2, ln2, Lc2, μ2, O2, T2, r3, fun h' kk => law_5 i hi hL hv r1 r2 kk⟩
    | 6, _ =>
      obtain ⟨x, σ2, sr2, ln2, Lc2, μ2, O2, T2, r1, r2, r3⟩ := op_line (xs := xs) (LL := LL) h (xs (i + 1)) (xs (i + 2))
      exact ⟨σ2, sr2, ln2, Lc2, μ2, O2, T2, r3, fun h' kk => law_6 i hi hL hv r1 r2 kk⟩
    | 7, _ =>
      obtain ⟨x, σ2, sr2, ln2, Lc2, μ2, O2, T2, r1, r2, r3⟩ := op_lineTold (xs := xs) (LL := LL) h (xs (i + 1)) (xs (i + 2))
      exact ⟨σ2, sr2, ln2, Lc2, μ2, O2, T2, r3, fun h' kk => law_7 i hi hL hv r1 r2 kk⟩
    | 8, _ =>
      obtain ⟨x, σ2, sr2, ln2, Lc2, μ2, O2, T2, r1, r2, r3⟩ := op_turn (xs := xs) (LL := LL) h (xs (i + 1)) (xs (i + 2))
      exact ⟨σ2, sr2, ln2, Lc2, μ2, O2, T2, r3, fun h' kk => law_8 i hi hL hv r1 r2 kk⟩
    | 9, _ =>
      obtain ⟨x, σ2, sr2, ln2, Lc2, μ2, O2, T2, r1, r2, r3⟩ := op_in (xs := xs) (LL := LL) h (xs (i + 1)) (xs (i + 2))
      exact ⟨σ2, sr2, ln2, Lc2, μ2, O2, T2, r3, fun h' kk => law_9 i hi hL hv r1 r2 kk⟩
    | 10, _ =>
      obtain ⟨x, σ2, sr2, ln2, Lc2, μ2, O2, T2, r1, r2, r3⟩ := op_holds (xs := xs) (LL := LL) h (xs (i + 1))
      exact ⟨σ2, sr2, ln2, Lc2, μ2, O2, T2, r3, fun h' kk => law_10 i hi hL hv r1 r2 kk⟩
    | 11, _ =>
      obtain ⟨x, σ2, sr2, ln2, Lc2, μ2, O2, T2, r1, r2, r3⟩ := op_field (xs := xs) (LL := LL) h (xs (i + 1)) (xs (i + 2))
      exact ⟨σ2, sr2, ln2, Lc2, μ2, O2, T2, r3, fun h' kk => law_11 i hi hL hv r1 r2 kk⟩
    | 12, _ =>
      obtain ⟨x, σ2, sr2, ln2, Lc2, μ2, O2, T2, r1, r2, r3⟩ := op_still (xs := xs) (LL := LL) h 
      exact ⟨σ2, sr2, ln2, Lc2, μ2, O2, T2, r3, fun h' kk => law_12 i hi hL hv r1 r2 kk⟩
    | 13, _ =>
      obtain ⟨x, σ2, sr2, ln2, Lc2, μ2, O2, T2, r1, r2, r3⟩ := op_way (xs := xs) (LL := LL) h (xs (i + 1)) (xs (i + 2))
      exact ⟨σ2, sr2, ln2, Lc2, μ2, O2, T2, r3, fun h' kk => law_13 i hi hL hv r1 r2 kk⟩
    | 14, _ =>
      obtain ⟨x, σ2, sr2, ln2, Lc2, μ2, O2, T2, r1, r2, r3⟩ := op_byKinds (xs := xs) (LL := LL) h (xs (i + 1))
      exact ⟨σ2, sr2, ln2, Lc2, μ2, O2, T2, r3, fun h' kk => law_14 i hi hL hv r1 r2 kk⟩
    | 15, _ =>
      obtain ⟨x, σ2, sr2, ln2, Lc2, μ2, O2, T2, r1, r2, r3⟩ := op_tooMuch (xs := xs) (LL := LL) h (xs (i + 1))
      exact ⟨σ2, sr2, ln2, Lc2, μ2, O2, T2, r3, fun h' kk => law_15 i hi hL hv r1 r2 kk⟩
    | 16, _ =>
      obtain ⟨x, σ2, sr2, ln2, Lc2, μ2, O2, T2, r1, r2, r3⟩ := op_ask (xs := xs) (LL := LL) h (xs (i + 1)) (xs (i + 2)) (xs (i + 3))
      exact ⟨σ2, sr2, ln2, Lc2, μ2, O2, T2, r3, fun h' kk => law_16 i hi hL hv r1 r2 kk⟩
    | 17, _ =>
      obtain ⟨x, σ2, sr2, ln2, Lc2, μ2, O2, T2, r1, r2, r3⟩ := op_cast (xs := xs) (LL := LL) h (xs (i + 1))
      exact ⟨σ2, sr2, ln2, Lc2, μ2, O2, T2, r3, fun h' kk => law_17 i hi hL hv r1 r2 kk⟩
    | 18, _ =>
      obtain ⟨x, σ2, sr2, ln2, Lc2, μ2, O2, T2, r1, r2, r3⟩ := op_aims (xs := xs) (LL := LL) h (xs (i + 1))
      exact ⟨σ2, sr2, ln2, Lc2, μ2, O2, T2, r3, fun h' kk => law_18 i hi hL hv r1 r2 kk⟩
    | 19, _ =>
      obtain ⟨x, σ2, sr2, ln2, Lc2, μ2, O2, T2, r1, r2, r3⟩ := op_dead (xs := xs) (LL := LL) h 
      exact ⟨σ2, sr2, ln2, Lc2, μ2, O2, T2, r3, fun h' kk => law_19 i hi hL hv r1 r2 kk⟩
    | 20, _ =>
      obtain ⟨x, σ2, sr2, ln2, Lc2, μ2, O2, T2, r1, r2, r3⟩ := op_cut (xs := xs) (LL := LL) h (xs (i + 1)) (xs (i + 2))
      exact ⟨σ2, sr2, ln2, Lc2, μ2, O2, T2, r3, fun h' kk => law_20 i hi hL hv r1 r2 kk⟩
    | 21, _ =>
      obtain ⟨x, σ2, sr2, ln2, Lc2, μ2, O2, T2, r1, r2, r3⟩ := op_same_ (xs := xs) (LL := LL) h (xs (i + 1)) (xs (i + 2))
      exact ⟨σ2, sr2, ln2, Lc2, μ2, O2, T2, r3, fun h' kk => law_21 i hi hL hv r1 r2 kk⟩
    | 22, _ =>
      obtain ⟨x, σ2, sr2, ln2, Lc2, μ2, O2, T2, r1, r2, r3⟩ := op_melted (xs := xs) (LL := LL) h (xs (i + 1))
      exact ⟨σ2, sr2, ln2, Lc2, μ2, O2, T2, r3, fun h' kk => law_22 i hi hL hv r1 r2 kk⟩
    | 23, _ =>
      obtain ⟨x, σ2, sr2, ln2, Lc2, μ2, O2, T2, r1, r2, r3⟩ := op_leaves (xs := xs) (LL := LL) h 
      exact ⟨σ2, sr2, ln2, Lc2, μ2, O2, T2, r3, fun h' kk => law_23 i hi hL hv r1 r2 kk⟩
    | 24, _ =>
      obtain ⟨x, σ2, sr2, ln2, Lc2, μ2, O2, T2, r1, r2, r3⟩ := op_race (xs := xs) (LL := LL) h (xs (i + 1))
      exact ⟨σ2, sr2, ln2, Lc2, μ2, O2, T2, r3, fun h' kk => law_24 i hi hL hv r1 r2 kk⟩
    | 25, _ =>
      obtain ⟨x, σ2, sr2, ln2, Lc2, μ2, O2, T2, r1, r2, r3⟩ := op_run (xs := xs) (LL := LL) h (xs (i + 1)) (xs (i + 2))
      exact ⟨σ2, sr2, ln2, Lc2, μ2, O2, T2, r3, fun h' kk => law_25 i hi hL hv r1 r2 kk⟩
    | 26, _ =>
      obtain ⟨x, σ2, sr2, ln2, Lc2, μ2, O2, T2, r1, r2, r3⟩ := op_seen (xs := xs) (LL := LL) h (xs (i + 1))
      exact ⟨σ2, sr2, ln2, Lc2, μ2, O2, T2, r3, fun h' kk => law_26 i hi hL hv r1 r2 kk⟩
    | 27, _ =>
      obtain ⟨x, σ2, sr2, ln2, Lc2, μ2, O2, T2, r1, r2, r3⟩ := op_now (xs := xs) (LL := LL) h (xs (i + 1))
      exact ⟨σ2, sr2, ln2, Lc2, μ2, O2, T2, r3, fun h' kk => law_27 i hi hL hv r1 r2 kk⟩
    | 28, _ =>
      obtain ⟨x, σ2, sr2, ln2, Lc2, μ2, O2, T2, r1, r2, r3⟩ := op_count (xs := xs) (LL := LL) h (xs (i + 1))
      exact ⟨σ2, sr2, ln2, Lc2, μ2, O2, T2, r3, fun h' kk => law_28 i hi hL hv r1 r2 kk⟩
    | 29, _ =>
      obtain ⟨x, σ2, sr2, ln2, Lc2, μ2, O2, T2, r1, r2, r3⟩ := op_sheet (xs := xs) (LL := LL) h (xs (i + 1)) (xs (i + 2)) (xs (i + 3))
      exact ⟨σ2, sr2, ln2, Lc2, μ2, O2, T2, r3, fun h' kk => law_29 i hi hL hv r1 r2 kk⟩
    | 30, _ =>
      obtain ⟨x, σ2, sr2, ln2, Lc2, μ2, O2, T2, r1, r2, r3⟩ := op_cell (xs := xs) (LL := LL) h (xs (i + 1)) (xs (i + 2)) (xs (i + 3))
      exact ⟨σ2, sr2, ln2, Lc2, μ2, O2, T2, r3, fun h' kk => law_30 i hi hL hv r1 r2 kk⟩
    | 31, _ =>
      obtain ⟨x, σ2, sr2, ln2, Lc2, μ2, O2, T2, r1, r2, r3⟩ := op_copy (xs := xs) (LL := LL) h (xs (i + 1)) (xs (i + 2)) (xs (i + 3)) (xs (i + 4)) (xs (i + 5))
      exact ⟨σ2, sr2, ln2, Lc2, μ2, O2, T2, r3, fun h' kk => law_31 i hi hL hv r1 r2 kk⟩
    | 32, _ =>
      obtain ⟨x, σ2, sr2, ln2, Lc2, μ2, O2, T2, r1, r2, r3⟩ := op_taped (xs := xs) (LL := LL) h (xs (i + 1)) (xs (i + 2)) (xs (i + 3)) (xs (i + 4))
      exact ⟨σ2, sr2, ln2, Lc2, μ2, O2, T2, r3, fun h' kk => law_32 i hi hL hv r1 r2 kk⟩
    | 33, _ =>
      obtain ⟨x, σ2, sr2, ln2, Lc2, μ2, O2, T2, r1, r2, r3⟩ := op_taken (xs := xs) (LL := LL) h (xs (i + 1)) (xs (i + 2))
      exact ⟨σ2, sr2, ln2, Lc2, μ2, O2, T2, r3, fun h' kk => law_33 i hi hL hv r1 r2 kk⟩
    | k + 34, h => exact absurd h (by omega)
  · exact ⟨σ, sr, ln, Lc, μ, O, T, h, fun h' kk => law_no i hi hL (by omega) hk hv kk⟩
theorem rl_sub6 {L i : Nat} (hL : L ≤ 3072) (hi : i ≤ 4000) : nI L - 6 < nI i ↔ ¬ i + 6 ≤ L := by
  rw [Int32.lt_iff_toInt_lt, rl_subI (x := nI L) (y := 6) (by rw [nI_toInt (by omega), show (6 : Int32).toInt = 6 by decide]; omega) (by rw [nI_toInt (by omega), show (6 : Int32).toInt = 6 by decide]; omega), nI_toInt (by omega), nI_toInt (by omega), show (6 : Int32).toInt = 6 by decide]
  omega
theorem law_loop (hL : LL ≤ 3072) : ∀ (m i : Nat) (σ : Nat → Nat → Int32) (sr : Nat → Nat) (ln : Nat → Nat → Int32) (Lc : Nat) (μ : Nat → Nat → Int32) (O T : Nat), i ≤ LL → LL < i + 6 * m → rl_ σ sr ln Lc μ O T → ∃ (σ2 : Nat → Nat → Int32) (sr2 : Nat → Nat) (ln2 : Nat → Nat → Int32) (Lc2 : Nat) (μ2 : Nat → Nat → Int32), Lc2 ≤ 40 ∧ am_R xs LL cd_L_law (am_X xs LL 11) 18 [some (.ref 0), some (.ref 14), some (.ref 47), some (.int (nI i))] [] (hG σ sr ln Lc μ) (some (.int 1)) (hG σ2 sr2 ln2 Lc2 μ2) := by
  intro m
  induction m with
  | zero => intro i σ sr ln Lc μ O T h1 h2; omega
  | succ m ih =>
    intro i σ sr ln Lc μ O T h1 h2 h
    by_cases hi : i + 6 ≤ LL
    · obtain ⟨σ2, sr2, ln2, Lc2, μ2, O2, T2, r3, hk⟩ := law_step (xs := xs) h i hi hL
      obtain ⟨σ3, sr3, ln3, Lc3, μ3, e40, hr⟩ := ih (i + 6) σ2 sr2 ln2 Lc2 μ2 O2 T2 hi (by omega) r3
      refine ⟨σ3, sr3, ln3, Lc3, μ3, e40, ?_⟩
      refine am_g 6 (if nI LL - 6 < nI i then 1283 else 27) [some (.ref 0), some (.ref 14), some (.ref 47), some (.int (nI i))] [] (hG σ sr ln Lc μ) rfl ?_
      rw [if_neg (fun q => (rl_sub6 hL (by omega)).mp q hi)]
      refine hk _ ?_
      refine am_g 2 18 [some (.ref 0), some (.ref 14), some (.ref 47), some (.int (nI i + 6))] [] (hG σ2 sr2 ln2 Lc2 μ2) rfl ?_
      rw [show nI i + 6 = nI (i + 6) from nI_add i 6]
      exact hr
    · refine ⟨σ, sr, ln, Lc, μ, h.1.2.2.2.2.2.2, ?_⟩
      refine am_g 6 (if nI LL - 6 < nI i then 1283 else 27) [some (.ref 0), some (.ref 14), some (.ref 47), some (.int (nI i))] [] (hG σ sr ln Lc μ) rfl ?_
      rw [if_pos ((rl_sub6 hL (by omega)).mpr hi)]
      refine am_g 1 1284 [some (.ref 0), some (.ref 14), some (.ref 47), some (.int (nI i))] [.int 1] (hG σ sr ln Lc μ) rfl ?_
      exact am_ret2 rfl rfl rfl rfl rfl
end LW2
