/-! sets filled, sets worked out: what is then known -/
theorem am_up_ne {m : Nat → Nat → Int32} {k j : Nat} {f : Nat → Int32} (h : ¬ j = k) : am_up m k f j = m j := by
  unfold am_up
  cases e : Nat.beq j k with
  | false => rfl
  | true => exact absurd (Nat.eq_of_beq_eq_true e) h
theorem am_up_eq {m : Nat → Nat → Int32} {k : Nat} {f : Nat → Int32} : am_up m k f k = f := by
  unfold am_up
  rw [Nat.beq_refl]
  rfl
theorem am_us_ne {m : Nat → Nat → Int32} {k j : Nat} {v : Int32} (h : ¬ j = k) : am_us m k v j = m j := am_up_ne h
section FW
variable {xs : Nat → Int32} {LL : Nat} {σ μ : Nat → Nat → Int32} {sr : Nat → Nat} {ln : Nat → Nat → Int32} {Lc O : Nat} {bk : Bool} {wo : Int32}
/-- sets that are full: N rounds add, H the sets, F their first rounds -/
def pu_SF (σ : Nat → Nat → Int32) (sr : Nat → Nat) (ln : Nat → Nat → Int32) (Lc : Nat) (bk : Bool) (wo : Int32) (N : Nat) (H F : Nat → Int32) : Prop := pu_isN σ sr ln Lc bk wo N ∧ (∀ k, k < 68 → H k = pu_W σ sr ln Lc bk wo N k) ∧ pu_F σ sr ln Lc bk wo N F
theorem pu_SF_of (hwf : am_WF σ sr ln Lc) (hob : pu_ob sr ln Lc O) {N : Nat} (hN : pu_isN σ sr ln Lc bk wo N) (b : Nat) : pu_SF σ sr ln Lc bk wo N (pu_Z σ sr ln Lc bk wo b (N + 1)).2.1 (pu_Z σ sr ln Lc bk wo b (N + 1)).2.2.2 := by
  obtain ⟨i1, -, i3⟩ := pu_Z_inv (bk := bk) (wo := wo) hwf hob b (N + 1)
  exact ⟨hN, fun k hk => (i1 k hk).trans (pu_stopN hN hk), fun n o hn ho t ht => i3 n o hn ho t (by omega)⟩
theorem pu_hrun (hwf : am_WF σ sr ln Lc) (hob : pu_ob sr ln Lc O) {N : Nat} (hN : pu_isN σ sr ln Lc bk wo N) (b : Nat) : ∀ r, r ≤ N → ¬ (pu_Z σ sr ln Lc bk wo b r).1 = 0 := by
  intro r hr
  cases r with
  | zero => exact (by decide : ¬ (1 : Int32) = 0)
  | succ r => exact fun q => (pu_Z_0 hwf hob b r).mp q (hN.2.2 r (by omega))
theorem pu_hok (hwf : am_WF σ sr ln Lc) (hob : pu_ob sr ln Lc O) (b r : Nat) : am_okW (am_kf σ bk) (pu_Z σ sr ln Lc bk wo b r).2.1 := by
  obtain ⟨i1, -, -⟩ := pu_Z_inv (bk := bk) (wo := wo) hwf hob b r
  exact pu_okW hwf hob.1 (fun k hk => by rw [i1 k hk]; exact pu_W_bd hwf hob r k)
theorem sp_X7_fillW_0 (xs : Nat → Int32) (LL : Nat) (μ : Nat → Nat → Int32) (hwf : am_WF σ sr ln Lc) (hob : pu_ob sr ln Lc O) (wo : Int32) : ∃ (N : Nat) (H A F : Nat → Int32), pu_SF σ sr ln Lc false wo N H F ∧ ∀ d, am_X xs LL (d + 5) 53 [.ref 23, .int wo] (hG σ sr ln Lc μ) none (hG (am_us (am_up (am_up (am_up σ 12 H) 13 A) 14 F) 11 (nI N)) sr ln Lc μ) := by
  obtain ⟨N, hN⟩ := pu_N hwf hob false wo
  exact ⟨N, _, _, _, pu_SF_of hwf hob hN 10, fun d => sp_X7_fill_0 d wo N hN.1 hwf (pu_hrun hwf hob hN 10) ((pu_Z_0 hwf hob 10 N).mpr hN.2.1) (fun r _ => pu_hok hwf hob 10 r)⟩
theorem sp_X7_filled_0_y (d : Nat) (h0 : ¬ σ 10 0 = 0) : am_X xs LL (d + 1) 52 [.ref 23] (hG σ sr ln Lc μ) (some (.ref 23)) (hG σ sr ln Lc μ) := by
  refine am_XR (d := d + 0) (C := cd_X7_filled) (L := [some (.ref 23)]) rfl rfl rfl rfl ?_
  refine am_g 3 (if (σ 10 0) = 0 then 7 else 17) [some (.ref 23)] [] (hG σ sr ln Lc μ) rfl ?_
  rw [if_neg (show ¬ (σ 10 0) = 0 from h0)]
  refine am_g 1 18 [some (.ref 23)] [.ref 23] (hG σ sr ln Lc μ) rfl ?_
  exact am_ret2 rfl rfl rfl rfl rfl
theorem sp_X7_filled_0_n (d : Nat) {τ : Nat → Nat → Int32} (h0 : σ 10 0 = 0) (hf : ∀ d, am_X xs LL (d + 5) 53 [.ref 23, .int (-1)] (hG σ sr ln Lc μ) none (hG τ sr ln Lc μ)) : am_X xs LL (d + 6) 52 [.ref 23] (hG σ sr ln Lc μ) (some (.ref 23)) (hG (am_us τ 10 1) sr ln Lc μ) := by
  refine am_XR (d := d + 5) (C := cd_X7_filled) (L := [some (.ref 23)]) rfl rfl rfl rfl ?_
  refine am_g 3 (if (σ 10 0) = 0 then 7 else 17) [some (.ref 23)] [] (hG σ sr ln Lc μ) rfl ?_
  rw [if_pos (show (σ 10 0) = 0 from h0)]
  refine am_g 2 9 [some (.ref 23)] [.int (-1), .ref 23] (hG σ sr ln Lc μ) rfl ?_
  refine am_call (y := 53) (vs := [.ref 23, .int (-1)]) (rest := []) (v := none) (h1 := (hG τ sr ln Lc μ)) rfl rfl rfl (hf d) ?_
  refine am_g 4 18 [some (.ref 23)] [.ref 23] (hG (am_us τ 10 1) sr ln Lc μ) rfl ?_
  exact am_ret2 rfl rfl rfl rfl rfl
theorem sp_filled_0 (xs : Nat → Int32) (LL : Nat) (μ : Nat → Nat → Int32) (hwf : am_WF σ sr ln Lc) (hob : pu_ob sr ln Lc O) (hc : σ 10 0 = 0 ∨ σ 10 0 = 1 ∧ ∃ N, pu_SF σ sr ln Lc false (-1) N (σ 12) (σ 14) ∧ σ 11 0 = nI N) : ∃ τ : Nat → Nat → Int32, (∀ d, am_X xs LL (d + 6) 52 [.ref 23] (hG σ sr ln Lc μ) (some (.ref 23)) (hG τ sr ln Lc μ)) ∧ τ 10 0 = 1 ∧ (∃ N, pu_SF σ sr ln Lc false (-1) N (τ 12) (τ 14) ∧ τ 11 0 = nI N) ∧ ∀ j, (j < 10 ∨ 14 < j) → τ j = σ j := by
  rcases hc with h0 | ⟨h1, N, hS, hr⟩
  · obtain ⟨N, H, A, F, hS, hf⟩ := sp_X7_fillW_0 xs LL μ hwf hob (-1)
    refine ⟨_, fun d => sp_X7_filled_0_n d h0 hf, rfl, ⟨N, hS, rfl⟩, fun j hj => ?_⟩
    rw [am_us_ne (by omega), am_us_ne (by omega), am_up_ne (by omega), am_up_ne (by omega), am_up_ne (by omega)]
  · exact ⟨σ, fun d => sp_X7_filled_0_y (d + 5) (by rw [h1]; decide), h1, ⟨N, hS, hr⟩, fun _ _ => rfl⟩
theorem sp_X7_fillW_1 (xs : Nat → Int32) (LL : Nat) (μ : Nat → Nat → Int32) (hwf : am_WF σ sr ln Lc) (hob : pu_ob sr ln Lc O) (wo : Int32) : ∃ (N : Nat) (H A F : Nat → Int32), pu_SF σ sr ln Lc true wo N H F ∧ ∀ d, am_X xs LL (d + 5) 53 [.ref 27, .int wo] (hG σ sr ln Lc μ) none (hG (am_us (am_up (am_up (am_up σ 22 H) 23 A) 24 F) 21 (nI N)) sr ln Lc μ) := by
  obtain ⟨N, hN⟩ := pu_N hwf hob true wo
  exact ⟨N, _, _, _, pu_SF_of hwf hob hN 20, fun d => sp_X7_fill_1 d wo N hN.1 hwf (pu_hrun hwf hob hN 20) ((pu_Z_0 hwf hob 20 N).mpr hN.2.1) (fun r _ => pu_hok hwf hob 20 r)⟩
theorem sp_X7_filled_1_y (d : Nat) (h0 : ¬ σ 20 0 = 0) : am_X xs LL (d + 1) 52 [.ref 27] (hG σ sr ln Lc μ) (some (.ref 27)) (hG σ sr ln Lc μ) := by
  refine am_XR (d := d + 0) (C := cd_X7_filled) (L := [some (.ref 27)]) rfl rfl rfl rfl ?_
  refine am_g 3 (if (σ 20 0) = 0 then 7 else 17) [some (.ref 27)] [] (hG σ sr ln Lc μ) rfl ?_
  rw [if_neg (show ¬ (σ 20 0) = 0 from h0)]
  refine am_g 1 18 [some (.ref 27)] [.ref 27] (hG σ sr ln Lc μ) rfl ?_
  exact am_ret2 rfl rfl rfl rfl rfl
theorem sp_X7_filled_1_n (d : Nat) {τ : Nat → Nat → Int32} (h0 : σ 20 0 = 0) (hf : ∀ d, am_X xs LL (d + 5) 53 [.ref 27, .int (-1)] (hG σ sr ln Lc μ) none (hG τ sr ln Lc μ)) : am_X xs LL (d + 6) 52 [.ref 27] (hG σ sr ln Lc μ) (some (.ref 27)) (hG (am_us τ 20 1) sr ln Lc μ) := by
  refine am_XR (d := d + 5) (C := cd_X7_filled) (L := [some (.ref 27)]) rfl rfl rfl rfl ?_
  refine am_g 3 (if (σ 20 0) = 0 then 7 else 17) [some (.ref 27)] [] (hG σ sr ln Lc μ) rfl ?_
  rw [if_pos (show (σ 20 0) = 0 from h0)]
  refine am_g 2 9 [some (.ref 27)] [.int (-1), .ref 27] (hG σ sr ln Lc μ) rfl ?_
  refine am_call (y := 53) (vs := [.ref 27, .int (-1)]) (rest := []) (v := none) (h1 := (hG τ sr ln Lc μ)) rfl rfl rfl (hf d) ?_
  refine am_g 4 18 [some (.ref 27)] [.ref 27] (hG (am_us τ 20 1) sr ln Lc μ) rfl ?_
  exact am_ret2 rfl rfl rfl rfl rfl
theorem sp_filled_1 (xs : Nat → Int32) (LL : Nat) (μ : Nat → Nat → Int32) (hwf : am_WF σ sr ln Lc) (hob : pu_ob sr ln Lc O) (hc : σ 20 0 = 0 ∨ σ 20 0 = 1 ∧ ∃ N, pu_SF σ sr ln Lc true (-1) N (σ 22) (σ 24) ∧ σ 21 0 = nI N) : ∃ τ : Nat → Nat → Int32, (∀ d, am_X xs LL (d + 6) 52 [.ref 27] (hG σ sr ln Lc μ) (some (.ref 27)) (hG τ sr ln Lc μ)) ∧ τ 20 0 = 1 ∧ (∃ N, pu_SF σ sr ln Lc true (-1) N (τ 22) (τ 24) ∧ τ 21 0 = nI N) ∧ ∀ j, (j < 20 ∨ 24 < j) → τ j = σ j := by
  rcases hc with h0 | ⟨h1, N, hS, hr⟩
  · obtain ⟨N, H, A, F, hS, hf⟩ := sp_X7_fillW_1 xs LL μ hwf hob (-1)
    refine ⟨_, fun d => sp_X7_filled_1_n d h0 hf, rfl, ⟨N, hS, rfl⟩, fun j hj => ?_⟩
    rw [am_us_ne (by omega), am_us_ne (by omega), am_up_ne (by omega), am_up_ne (by omega), am_up_ne (by omega)]
  · exact ⟨σ, fun d => sp_X7_filled_1_y (d + 5) (by rw [h1]; decide), h1, ⟨N, hS, hr⟩, fun _ _ => rfl⟩
theorem sp_X7_fillW_2 (xs : Nat → Int32) (LL : Nat) (μ : Nat → Nat → Int32) (hwf : am_WF σ sr ln Lc) (hob : pu_ob sr ln Lc O) (wo : Int32) : ∃ (N : Nat) (H A F : Nat → Int32), pu_SF σ sr ln Lc false wo N H F ∧ ∀ d, am_X xs LL (d + 5) 53 [.ref 31, .int wo] (hG σ sr ln Lc μ) none (hG (am_us (am_up (am_up (am_up σ 32 H) 33 A) 34 F) 31 (nI N)) sr ln Lc μ) := by
  obtain ⟨N, hN⟩ := pu_N hwf hob false wo
  exact ⟨N, _, _, _, pu_SF_of hwf hob hN 30, fun d => sp_X7_fill_2 d wo N hN.1 hwf (pu_hrun hwf hob hN 30) ((pu_Z_0 hwf hob 30 N).mpr hN.2.1) (fun r _ => pu_hok hwf hob 30 r)⟩
theorem sp_X7_filled_2_y (d : Nat) (h0 : ¬ σ 30 0 = 0) : am_X xs LL (d + 1) 52 [.ref 31] (hG σ sr ln Lc μ) (some (.ref 31)) (hG σ sr ln Lc μ) := by
  refine am_XR (d := d + 0) (C := cd_X7_filled) (L := [some (.ref 31)]) rfl rfl rfl rfl ?_
  refine am_g 3 (if (σ 30 0) = 0 then 7 else 17) [some (.ref 31)] [] (hG σ sr ln Lc μ) rfl ?_
  rw [if_neg (show ¬ (σ 30 0) = 0 from h0)]
  refine am_g 1 18 [some (.ref 31)] [.ref 31] (hG σ sr ln Lc μ) rfl ?_
  exact am_ret2 rfl rfl rfl rfl rfl
theorem sp_X7_filled_2_n (d : Nat) {τ : Nat → Nat → Int32} (h0 : σ 30 0 = 0) (hf : ∀ d, am_X xs LL (d + 5) 53 [.ref 31, .int (-1)] (hG σ sr ln Lc μ) none (hG τ sr ln Lc μ)) : am_X xs LL (d + 6) 52 [.ref 31] (hG σ sr ln Lc μ) (some (.ref 31)) (hG (am_us τ 30 1) sr ln Lc μ) := by
  refine am_XR (d := d + 5) (C := cd_X7_filled) (L := [some (.ref 31)]) rfl rfl rfl rfl ?_
  refine am_g 3 (if (σ 30 0) = 0 then 7 else 17) [some (.ref 31)] [] (hG σ sr ln Lc μ) rfl ?_
  rw [if_pos (show (σ 30 0) = 0 from h0)]
  refine am_g 2 9 [some (.ref 31)] [.int (-1), .ref 31] (hG σ sr ln Lc μ) rfl ?_
  refine am_call (y := 53) (vs := [.ref 31, .int (-1)]) (rest := []) (v := none) (h1 := (hG τ sr ln Lc μ)) rfl rfl rfl (hf d) ?_
  refine am_g 4 18 [some (.ref 31)] [.ref 31] (hG (am_us τ 30 1) sr ln Lc μ) rfl ?_
  exact am_ret2 rfl rfl rfl rfl rfl
theorem sp_filled_2 (xs : Nat → Int32) (LL : Nat) (μ : Nat → Nat → Int32) (hwf : am_WF σ sr ln Lc) (hob : pu_ob sr ln Lc O) (hc : σ 30 0 = 0 ∨ σ 30 0 = 1 ∧ ∃ N, pu_SF σ sr ln Lc false (-1) N (σ 32) (σ 34) ∧ σ 31 0 = nI N) : ∃ τ : Nat → Nat → Int32, (∀ d, am_X xs LL (d + 6) 52 [.ref 31] (hG σ sr ln Lc μ) (some (.ref 31)) (hG τ sr ln Lc μ)) ∧ τ 30 0 = 1 ∧ (∃ N, pu_SF σ sr ln Lc false (-1) N (τ 32) (τ 34) ∧ τ 31 0 = nI N) ∧ ∀ j, (j < 30 ∨ 34 < j) → τ j = σ j := by
  rcases hc with h0 | ⟨h1, N, hS, hr⟩
  · obtain ⟨N, H, A, F, hS, hf⟩ := sp_X7_fillW_2 xs LL μ hwf hob (-1)
    refine ⟨_, fun d => sp_X7_filled_2_n d h0 hf, rfl, ⟨N, hS, rfl⟩, fun j hj => ?_⟩
    rw [am_us_ne (by omega), am_us_ne (by omega), am_up_ne (by omega), am_up_ne (by omega), am_up_ne (by omega)]
  · exact ⟨σ, fun d => sp_X7_filled_2_y (d + 5) (by rw [h1]; decide), h1, ⟨N, hS, hr⟩, fun _ _ => rfl⟩
theorem sp_workOut_0 (xs : Nat → Int32) (LL : Nat) (hwf : am_WF σ sr ln Lc) (hob : pu_ob sr ln Lc O) (hRK : am_RK σ μ) (hRL : am_RL sr ln Lc μ) (hRO : am_RO σ sr ln Lc O μ) (wo : Int32) : ∃ (ν : Nat → Nat → Int32) (N : Nat), pu_isN σ sr ln Lc false wo N ∧ (∀ k, k < 68 → ν 24 k = pu_W σ sr ln Lc false wo N k) ∧ ν 26 0 = nI N ∧ (∀ j, (j < 24 ∨ 28 < j) → ν j = μ j) ∧ ∀ d, am_X xs LL (d + 6) 173 [.ref 47, .int 0, .int wo] (hG σ sr ln Lc μ) none (hG σ sr ln Lc ν) := by
  obtain ⟨N, hN⟩ := pu_N hwf hob false wo
  have hi := pu_Y_inv (bk := false) (wo := wo) hwf hob (μ 24) (μ 25)
  refine ⟨_, N, hN, ?_, rfl, ?_, fun d => sp_X12_workOut_0 d hwf hRK hRL hRO wo N (fun r hr q => (pu_Y_0 hwf hob _ _ r).mp q (hN.2.2 r hr)) ((pu_Y_0 hwf hob _ _ N).mpr hN.2.1) (fun r _ => pu_okM (fun k hk => by rw [hi r k hk]; exact pu_W_bd hwf hob r k))⟩
  · intro k hk
    exact (hi (N + 1) k hk).trans (pu_stopN hN hk)
  · intro j hj
    rw [am_up_ne (by omega), am_up_ne (by omega), am_us_ne (by omega), am_us_ne (by omega), am_us_ne (by omega)]
theorem sp_workOut_1 (xs : Nat → Int32) (LL : Nat) (hwf : am_WF σ sr ln Lc) (hob : pu_ob sr ln Lc O) (hRK : am_RK σ μ) (hRL : am_RL sr ln Lc μ) (hRO : am_RO σ sr ln Lc O μ) (wo : Int32) : ∃ (ν : Nat → Nat → Int32) (N : Nat), pu_isN σ sr ln Lc true wo N ∧ (∀ k, k < 68 → ν 24 k = pu_W σ sr ln Lc true wo N k) ∧ ν 26 0 = nI N ∧ (∀ j, (j < 24 ∨ 28 < j) → ν j = μ j) ∧ ∀ d, am_X xs LL (d + 6) 173 [.ref 47, .int 1, .int wo] (hG σ sr ln Lc μ) none (hG σ sr ln Lc ν) := by
  obtain ⟨N, hN⟩ := pu_N hwf hob true wo
  have hi := pu_Y_inv (bk := true) (wo := wo) hwf hob (μ 24) (μ 25)
  refine ⟨_, N, hN, ?_, rfl, ?_, fun d => sp_X12_workOut_1 d hwf hRK hRL hRO wo N (fun r hr q => (pu_Y_0 hwf hob _ _ r).mp q (hN.2.2 r hr)) ((pu_Y_0 hwf hob _ _ N).mpr hN.2.1) (fun r _ => pu_okM (fun k hk => by rw [hi r k hk]; exact pu_W_bd hwf hob r k))⟩
  · intro k hk
    exact (hi (N + 1) k hk).trans (pu_stopN hN hk)
  · intro j hj
    rw [am_up_ne (by omega), am_up_ne (by omega), am_us_ne (by omega), am_us_ne (by omega), am_us_ne (by omega)]
end FW
