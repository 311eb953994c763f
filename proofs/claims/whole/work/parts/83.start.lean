/-! the start: class and reference made, both agree; the law's run -/
theorem st_fat {n k : Nat} (h : k < n) : st_f n k = -1 := if_pos ⟨Nat.zero_le _, h⟩
theorem st_rel : rl_ st_s0 (fun _ => 0) (fun _ _ => 0) 0 st_m0 0 0 := by
  refine ⟨⟨fun k hk => Or.inl (st_fat hk), fun p hp => Or.inl (st_fat hp), fun p hp => Or.inl (st_fat hp), fun p hp => Or.inl (st_fat hp), fun i hi => absurd hi (Nat.not_lt_zero _), fun i hi => absurd hi (Nat.not_lt_zero _), by decide⟩, ⟨rfl, rfl, fun f hf => ?_, fun f hf => ?_, fun f hf => ?_, 0, by decide, rfl, rfl⟩, ⟨rfl, fun i hi => absurd hi (Nat.not_lt_zero _), fun i hi => absurd hi (Nat.not_lt_zero _), fun i hi => absurd hi (Nat.not_lt_zero _), fun i hi => absurd hi (Nat.not_lt_zero _), fun i hi => absurd hi (Nat.not_lt_zero _), fun i hi => absurd hi (Nat.not_lt_zero _), fun i hi => absurd hi (Nat.not_lt_zero _), fun i hi => absurd hi (Nat.not_lt_zero _), fun i hi => absurd hi (Nat.not_lt_zero _), fun i hi => absurd hi (Nat.not_lt_zero _)⟩, ⟨by decide, rfl, rfl, fun i hi => absurd hi (Nat.not_lt_zero _), fun i hi => absurd hi (Nat.not_lt_zero _)⟩, ⟨by decide, rfl, rfl, fun i hi => absurd hi (Nat.not_lt_zero _), fun i hi => absurd hi (Nat.not_lt_zero _)⟩, fun n hn => ⟨?_, rfl⟩, ⟨?_, ?_, ?_, ?_⟩, Or.inl rfl, Or.inl rfl⟩
  · show st_f 6 f = st_f 18 (3 * f + 0)
    rw [st_fat hf, st_fat (by omega)]
  · show st_f 6 f = st_f 18 (3 * f + 1)
    rw [st_fat hf, st_fat (by omega)]
  · show st_f 6 f = st_f 18 (3 * f + 2)
    rw [st_fat hf, st_fat (by omega)]
  · show st_f 20 n = st_f 68 n
    rw [st_fat hn, st_fat (by omega)]
  · exact ⟨Or.inl ⟨rfl, rfl⟩, ⟨0, by decide, rfl, rfl⟩, fun i _ => rfl⟩
  · exact ⟨Or.inl ⟨rfl, rfl⟩, ⟨0, by decide, rfl, rfl⟩, fun i _ => rfl⟩
  · exact ⟨Or.inl ⟨rfl, rfl⟩, ⟨0, by decide, rfl, rfl⟩, fun i _ => rfl⟩
  · exact ⟨Or.inl ⟨rfl, rfl⟩, ⟨0, by decide, rfl, rfl⟩, fun i _ => rfl⟩
theorem st_len {σ μ : Nat → Nat → Int32} {sr : Nat → Nat} {ln : Nat → Nat → Int32} {Lc : Nat} (h : Lc ≤ 40) : (hG σ sr ln Lc μ).length ≤ 600000 := by
  rw [hXC_hG, am_lenX, List.length_map, List.length_range]
  omega
theorem st_szl {sr : Nat → Nat} {ln : Nat → Nat → Int32} : ∀ n, (((List.range n).map (hLn sr ln)).map am_sz1).sum ≤ 8 * n := by
  intro n
  induction n with
  | zero => exact Nat.le_refl _
  | succ n ih =>
    rw [List.range_succ, List.map_append, List.map_append, List.sum_append]
    have h : am_sz1 (hLn sr ln n) ≤ 8 := by
      unfold hLn am_sz1
      dsimp only
      cases Nat.blt 3 (sr n) with
      | true => exact (by decide : 8 ≤ 8)
      | false => exact (by decide : 7 ≤ 8)
    show _ + (am_sz1 (hLn sr ln n) + 0) ≤ _
    omega
theorem st_sz {σ μ : Nat → Nat → Int32} {sr : Nat → Nat} {ln : Nat → Nat → Int32} {Lc : Nat} (h : Lc ≤ 40) : am_sz (hG σ sr ln Lc μ) ≤ 7302250 := by
  have e : am_sz (hG σ sr ln Lc μ) = am_sz (hXM σ Lc μ) + (((List.range Lc).map (hLn sr ln)).map am_sz1).sum := by
    unfold am_sz hG
    rw [List.map_append, List.sum_append]
  have e2 : am_sz (hXM σ Lc μ) ≤ 10000 := by
    unfold am_sz hXM
    first
      | (simp only [List.map_cons, List.map_nil, List.sum_cons, List.sum_nil, am_sz1, List.length_cons, List.length_nil]; done)
      | (simp only [List.map_cons, List.map_nil, List.sum_cons, List.sum_nil, am_sz1, List.length_cons, List.length_nil]; decide)
  have e3 := st_szl (sr := sr) (ln := ln) Lc
  omega
theorem st_law (LL : Nat) (xs : Nat → Int32) (hL : LL ≤ 3072) : ∃ h', am_R xs LL cd_L_law (am_X xs LL 11) 0 (am_ent 4 [.ref 0]) [] [] (some (.int 1)) h' ∧ h'.length ≤ 600000 ∧ am_sz h' ≤ 7302250 := by
  obtain ⟨σ2, sr2, ln2, Lc2, μ2, e40, hr⟩ := law_loop (xs := xs) hL (LL + 1) 0 st_s0 (fun _ => 0) (fun _ _ => 0) 0 st_m0 0 0 (Nat.zero_le _) (by omega) st_rel
  refine ⟨hG σ2 sr2 ln2 Lc2 μ2, ?_, st_len e40, st_sz e40⟩
  refine am_g 2 4 [some (.ref 0), none, none, none] [.ref 14, .ref 14] [.inr (11, [.null, .null, .null, .int 0, .null, .null, .null, .null, .null])] rfl ?_
  refine am_call (y := 87) (vs := [.ref 14]) (rest := [.ref 14]) (v := none) (h1 := [.inr (11, [.ref 15, .ref 20, .ref 22, .int 0, .ref 23, .ref 27, .ref 31, .ref 35, .ref 38]), .inr (3, [.ref 16, .ref 17, .ref 18, .ref 19, .int 0, .int 0]), .inl (0, 8, .inl (am_fill (fun _ => (-1)) (fun _ => 0) 8 0)), .inl (0, 24, .inl (am_fill (fun _ => (-1)) (fun _ => 0) 24 0)), .inl (0, 18, .inl (am_fill (fun _ => (-1)) (fun _ => 0) 18 0)), .inl (0, 16, .inl (am_fill (fun _ => (-1)) (fun _ => 0) 16 0)), .inr (9, [.ref 21, .int 0]), .inl (0, 20, .inl (fun _ => 0)), .inl (2, 40, .inr (fun _ => none)), .inr (7, [.ref 15, .int 0, .ref 22, .int 0, .int 0, .ref 24, .ref 25, .ref 26]), .inl (0, 68, .inl (fun _ => 0)), .inl (0, 68, .inl (fun _ => 0)), .inl (0, 320, .inl (fun _ => 0)), .inr (7, [.ref 15, .int 1, .ref 22, .int 0, .int 0, .ref 28, .ref 29, .ref 30]), .inl (0, 68, .inl (fun _ => 0)), .inl (0, 68, .inl (fun _ => 0)), .inl (0, 320, .inl (fun _ => 0)), .inr (7, [.ref 15, .int 0, .ref 22, .int 0, .int 0, .ref 32, .ref 33, .ref 34]), .inl (0, 68, .inl (fun _ => 0)), .inl (0, 68, .inl (fun _ => 0)), .inl (0, 320, .inl (fun _ => 0)), .inr (4, [.ref 15, .ref 36, .ref 37]), .inl (0, 68, .inl (am_fill (fun _ => (-1)) (fun _ => 0) 68 0)), .inl (0, 68, .inl (fun _ => 0)), .inl (3, 4, .inr (va_up (va_up (va_up (va_up (fun _ => none) 0 (some 39)) 1 (some 41)) 2 (some 43)) 3 (some 45))), .inr (8, [.ref 40, .int (-1), .int 0]), .inl (0, 40, .inl (fun _ => 0)), .inr (8, [.ref 42, .int (-1), .int 0]), .inl (0, 40, .inl (fun _ => 0)), .inr (8, [.ref 44, .int (-1), .int 0]), .inl (0, 40, .inl (fun _ => 0)), .inr (8, [.ref 46, .int (-1), .int 0]), .inl (0, 40, .inl (fun _ => 0))]) rfl rfl rfl (st_i11_X11_init 8) ?_
  refine am_g 3 12 [some (.ref 0), some (.ref 14), none, none] [.ref 47, .ref 47] [.inr (11, [.ref 15, .ref 20, .ref 22, .int 0, .ref 23, .ref 27, .ref 31, .ref 35, .ref 38]), .inr (3, [.ref 16, .ref 17, .ref 18, .ref 19, .int 0, .int 0]), .inl (0, 8, .inl (am_fill (fun _ => (-1)) (fun _ => 0) 8 0)), .inl (0, 24, .inl (am_fill (fun _ => (-1)) (fun _ => 0) 24 0)), .inl (0, 18, .inl (am_fill (fun _ => (-1)) (fun _ => 0) 18 0)), .inl (0, 16, .inl (am_fill (fun _ => (-1)) (fun _ => 0) 16 0)), .inr (9, [.ref 21, .int 0]), .inl (0, 20, .inl (fun _ => 0)), .inl (2, 40, .inr (fun _ => none)), .inr (7, [.ref 15, .int 0, .ref 22, .int 0, .int 0, .ref 24, .ref 25, .ref 26]), .inl (0, 68, .inl (fun _ => 0)), .inl (0, 68, .inl (fun _ => 0)), .inl (0, 320, .inl (fun _ => 0)), .inr (7, [.ref 15, .int 1, .ref 22, .int 0, .int 0, .ref 28, .ref 29, .ref 30]), .inl (0, 68, .inl (fun _ => 0)), .inl (0, 68, .inl (fun _ => 0)), .inl (0, 320, .inl (fun _ => 0)), .inr (7, [.ref 15, .int 0, .ref 22, .int 0, .int 0, .ref 32, .ref 33, .ref 34]), .inl (0, 68, .inl (fun _ => 0)), .inl (0, 68, .inl (fun _ => 0)), .inl (0, 320, .inl (fun _ => 0)), .inr (4, [.ref 15, .ref 36, .ref 37]), .inl (0, 68, .inl (am_fill (fun _ => (-1)) (fun _ => 0) 68 0)), .inl (0, 68, .inl (fun _ => 0)), .inl (3, 4, .inr (va_up (va_up (va_up (va_up (fun _ => none) 0 (some 39)) 1 (some 41)) 2 (some 43)) 3 (some 45))), .inr (8, [.ref 40, .int (-1), .int 0]), .inl (0, 40, .inl (fun _ => 0)), .inr (8, [.ref 42, .int (-1), .int 0]), .inl (0, 40, .inl (fun _ => 0)), .inr (8, [.ref 44, .int (-1), .int 0]), .inl (0, 40, .inl (fun _ => 0)), .inr (8, [.ref 46, .int (-1), .int 0]), .inl (0, 40, .inl (fun _ => 0)), .inr (12, [.int 0, .null, .null, .int 0, .null, .null, .null, .null, .null, .null, .null, .null, .null, .null, .null, .null, .null, .int 0, .null, .int 0, .null, .int 0, .int 0, .int 0, .null, .null, .int 0, .int 0, .int 0, .null, .null, .null, .null, .null, .null, .null, .null])] rfl ?_
  refine am_call (y := 141) (vs := [.ref 47]) (rest := [.ref 47]) (v := none) (h1 := hG st_s0 (fun _ => 0) (fun _ _ => 0) 0 st_m0) rfl rfl rfl (st_X12_init (fun _ => 0) (fun _ _ => 0) 10) ?_
  refine am_g 3 18 [some (.ref 0), some (.ref 14), some (.ref 47), some (.int (nI 0))] [] (hG st_s0 (fun _ => 0) (fun _ _ => 0) 0 st_m0) rfl ?_
  exact hr
