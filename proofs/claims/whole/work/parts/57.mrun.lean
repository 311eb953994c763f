/-! the reference: run -/
theorem am_b500x {B : Int32} : decide ((0 : Int64) ≤ B.toInt64 ∧ B.toInt64 ≤ 500) = decide ((0 : Int32) ≤ B ∧ B ≤ 500) := by
  congr 1
  rw [Int64.le_iff_toInt_le, Int64.le_iff_toInt_le, Int32.toInt_toInt64, Int32.le_iff_toInt_le, Int32.le_iff_toInt_le]
  rw [show (0 : Int64).toInt = 0 by decide, show (500 : Int64).toInt = 500 by decide, show (0 : Int32).toInt = 0 by decide, show (500 : Int32).toInt = 500 by decide]
theorem am_b500 {B : Nat} (hB : B < 501) : decide ((0 : Int64) ≤ (nI B).toInt64 ∧ (nI B).toInt64 ≤ 500) = true := by
  rw [am_b500x]
  exact am_wiN (a := 0) (b := 500) (v := B) (by omega) (by omega) (by omega)
section MN
variable {xs : Nat → Int32} {LL : Nat} {σ μ ν : Nat → Nat → Int32} {sr : Nat → Nat} {ln : Nat → Nat → Int32} {Lc O : Nat}
theorem am_RLx {ν0 : Nat → Nat → Int32} (h : ∀ j, j < 30 ∨ 32 < j → ν j = ν0 j) (g : am_RL sr ln Lc ν0) : am_RL sr ln Lc ν := by
  unfold am_RL at *
  rw [h 17 (by omega), h 7 (by omega), h 8 (by omega), h 9 (by omega), h 10 (by omega), h 11 (by omega), h 12 (by omega), h 13 (by omega), h 14 (by omega), h 15 (by omega), h 16 (by omega)]
  exact g
theorem am_RKx {ν0 : Nat → Nat → Int32} (h : ∀ j, j < 30 ∨ 32 < j → ν j = ν0 j) (g : am_RK σ ν0) : am_RK σ ν := by
  unfold am_RK at *
  rw [h 1 (by omega), h 2 (by omega), h 4 (by omega), h 5 (by omega), h 6 (by omega), h 3 (by omega)]
  exact g
theorem am_ROx {ν0 : Nat → Nat → Int32} (h : ∀ j, j < 30 ∨ 32 < j → ν j = ν0 j) (g : am_RO σ sr ln Lc O ν0) : am_RO σ sr ln Lc O ν := by
  unfold am_RO at *
  rw [h 19 (by omega), h 18 (by omega)]
  exact g
theorem sp_X12_run_ok (xs : Nat → Int32) (LL : Nat) (hwf : am_WF σ sr ln Lc) (hob : pu_ob sr ln Lc O) (hRK : am_RK σ μ) (hRL : am_RL sr ln Lc μ) (hRO : am_RO σ sr ln Lc O μ) (s : Nat) (hs : s < 100000) (n : Nat) (hn : n < 501) (hL0 : 0 < Lc) (H D : Nat → Int32) (hH0 : ∀ q, q < 68 → H q = -1) (hD0 : ∀ q, q < 20 → D q = 0) : ∃ ν1 : Nat → Nat → Int32, pu_RM (am_it (pu_rnS σ sr ln Lc s) (0, H, D) n).2.1 (am_it (pu_rnS σ sr ln Lc s) (0, H, D) n).2.2 ν1 ∧ (∀ j, j < 30 ∨ 32 < j → ν1 j = μ j) ∧ ∀ d, am_X xs LL (d + 6) 198 [.ref 47, .int (nI s), .int (nI n)] (hG σ sr ln Lc μ) (some (.int (nI (am_it (pu_rnS σ sr ln Lc s) (0, H, D) n).1))) (hG σ sr ln Lc ν1) := by
  have hL40 : Lc ≤ 40 := hwf.2.2.2.2.2.2
  have hok := pu_run_ok (H := H) (D := D) hwf hob s hL0 (fun q hq => Or.inl (hH0 q hq))
  have lp : ∀ (r k : Nat) (ν : Nat → Nat → Int32), k + r = n → pu_RM (am_it (pu_rnS σ sr ln Lc s) (0, H, D) k).2.1 (am_it (pu_rnS σ sr ln Lc s) (0, H, D) k).2.2 ν → (∀ j, j < 30 ∨ 32 < j → ν j = μ j) → ∃ ν1 : Nat → Nat → Int32, pu_RM (am_it (pu_rnS σ sr ln Lc s) (0, H, D) n).2.1 (am_it (pu_rnS σ sr ln Lc s) (0, H, D) n).2.2 ν1 ∧ (∀ j, j < 30 ∨ 32 < j → ν1 j = μ j) ∧ ∀ (d : Nat) (w : Option Value), am_R xs LL cd_X12_run (am_X xs LL (d + 5)) 97 [some (.ref 47), some (.int (nI s)), some (.int (nI n)), some (.long (lN (pu_lot s k))), none, some (.int (nI (am_it (pu_rnS σ sr ln Lc s) (0, H, D) k).1)), some (.int (nI k)), w] [] (hG σ sr ln Lc ν) (some (.int (nI (am_it (pu_rnS σ sr ln Lc s) (0, H, D) n).1))) (hG σ sr ln Lc ν1) := by
    intro r
    induction r with
    | zero =>
      intro k ν hi hRM hfr
      have hi2 : k = n := by omega
      subst hi2
      refine ⟨ν, hRM, hfr, fun d w => ?_⟩
      refine am_g 3 (if (nI k) ≤ (nI k) then 158 else 103) [some (.ref 47), some (.int (nI s)), some (.int (nI k)), some (.long (lN (pu_lot s k))), none, some (.int (nI (am_it (pu_rnS σ sr ln Lc s) (0, H, D) k).1)), some (.int (nI k)), w] [] (hG σ sr ln Lc ν) rfl ?_
      rw [if_pos (show (nI k) ≤ (nI k) from (Int32.le_refl _))]
      refine am_g 1 160 [some (.ref 47), some (.int (nI s)), some (.int (nI k)), some (.long (lN (pu_lot s k))), none, some (.int (nI (am_it (pu_rnS σ sr ln Lc s) (0, H, D) k).1)), some (.int (nI k)), w] [.int (nI (am_it (pu_rnS σ sr ln Lc s) (0, H, D) k).1)] (hG σ sr ln Lc ν) rfl ?_
      exact am_ret2 rfl rfl rfl rfl rfl
    | succ r ih =>
      intro k ν hi hRM hfr
      have hi2 : k < n := by omega
      have hRLn := am_RLx hfr hRL
      have hlk := pu_lot_lt hs k
      obtain ⟨l, hl⟩ : ∃ l, pu_lot s (k + 1) % Lc = l := ⟨_, rfl⟩
      have hl2 : l < Lc := by rw [← hl]; exact Nat.mod_lt _ hL0
      by_cases hon : ln l 6 = 0
      · have hq : (am_it (pu_rnS σ sr ln Lc s) (0, H, D) (k + 1)) = (am_it (pu_rnS σ sr ln Lc s) (0, H, D) k) := by rw [am_itS, pu_rnS_eq hl]; exact if_pos hon
        obtain ⟨ν1, k1, k2, k3⟩ := ih (k + 1) ν (by omega) (by rw [hq]; exact hRM) hfr
        refine ⟨ν1, k1, k2, fun d w => ?_⟩
        refine am_g 3 (if (nI n) ≤ (nI k) then 158 else 103) [some (.ref 47), some (.int (nI s)), some (.int (nI n)), some (.long (lN (pu_lot s k))), none, some (.int (nI (am_it (pu_rnS σ sr ln Lc s) (0, H, D) k).1)), some (.int (nI k)), w] [] (hG σ sr ln Lc ν) rfl ?_
        rw [if_neg (show ¬ (nI n) ≤ (nI k) from (nI_ge hi2 (by omega)))]
        refine am_g 4 111 [some (.ref 47), some (.int (nI s)), some (.int (nI n)), some (.long (lN (pu_lot s k))), none, some (.int (nI (am_it (pu_rnS σ sr ln Lc s) (0, H, D) k).1)), some (.int (nI k)), w] [.long 2147483647, .long ((lN (pu_lot s k)) * 48271)] (hG σ sr ln Lc ν) rfl ?_
        refine am_lremR (a := ((pu_lot s k) * 48271)) (b := 2147483647) rfl ((by rw [show (48271 : Int64) = lN 48271 from rfl, lN_mul])) (rfl) (by omega) (by omega) (by omega) ?_
        refine am_g 4 118 [some (.ref 47), some (.int (nI s)), some (.int (nI n)), some (.long (lN (((pu_lot s k) * 48271) % 2147483647))), none, some (.int (nI (am_it (pu_rnS σ sr ln Lc s) (0, H, D) k).1)), some (.int (nI k)), w] [.int (ν 17 0), .long (lN (((pu_lot s k) * 48271) % 2147483647))] (hG σ sr ln Lc ν) rfl ?_
        rw [show (ν 17 0) = (nI Lc) from hRLn.1]
        refine am_g 1 119 [some (.ref 47), some (.int (nI s)), some (.int (nI n)), some (.long (lN (((pu_lot s k) * 48271) % 2147483647))), none, some (.int (nI (am_it (pu_rnS σ sr ln Lc s) (0, H, D) k).1)), some (.int (nI k)), w] [.long ((nI Lc).toInt64), .long (lN (((pu_lot s k) * 48271) % 2147483647))] (hG σ sr ln Lc ν) rfl ?_
        refine am_lremR (a := (((pu_lot s k) * 48271) % 2147483647)) (b := Lc) rfl (rfl) ((nI_l (by omega))) (by omega) (by omega) (by omega) ?_
        refine am_g 1 121 [some (.ref 47), some (.int (nI s)), some (.int (nI n)), some (.long (lN (((pu_lot s k) * 48271) % 2147483647))), none, some (.int (nI (am_it (pu_rnS σ sr ln Lc s) (0, H, D) k).1)), some (.int (nI k)), w] [.int ((lN ((((pu_lot s k) * 48271) % 2147483647) % Lc)).toInt32)] (hG σ sr ln Lc ν) rfl ?_
        rw [lN_i]
        rw [show ((((pu_lot s k) * 48271) % 2147483647) % Lc) = l from hl]
        refine am_g 5 131 [some (.ref 47), some (.int (nI s)), some (.int (nI n)), some (.long (lN (((pu_lot s k) * 48271) % 2147483647))), none, some (.int (nI (am_it (pu_rnS σ sr ln Lc s) (0, H, D) k).1)), some (.int (nI k)), some (.int (nI l))] [.int (nI l), .ref 60, .int (nI (am_it (pu_rnS σ sr ln Lc s) (0, H, D) k).1)] (hG σ sr ln Lc ν) rfl ?_
        refine am_baldV (n := 40) (f := (ν 14)) (k := l) (w := (ln l 6)) rfl rfl (rfl) (by omega) (by decide) (hRLn.2.2.2.2.2.2.2.2.1 l hl2) ?_
        refine am_g 1 (if (ln l 6) = 0 then 148 else 135) [some (.ref 47), some (.int (nI s)), some (.int (nI n)), some (.long (lN (((pu_lot s k) * 48271) % 2147483647))), none, some (.int (nI (am_it (pu_rnS σ sr ln Lc s) (0, H, D) k).1)), some (.int (nI k)), some (.int (nI l))] [.int (nI (am_it (pu_rnS σ sr ln Lc s) (0, H, D) k).1)] (hG σ sr ln Lc ν) rfl ?_
        rw [if_pos (show (ln l 6) = 0 from hon)]
        refine am_g 5 97 [some (.ref 47), some (.int (nI s)), some (.int (nI n)), some (.long (lN (((pu_lot s k) * 48271) % 2147483647))), none, some (.int ((nI (am_it (pu_rnS σ sr ln Lc s) (0, H, D) k).1) + 0)), some (.int ((nI k) + 1)), some (.int (nI l))] [] (hG σ sr ln Lc ν) rfl ?_
        have kk := k3 d (some (.int (nI l)))
        rw [hq] at kk
        rw [nI_up, Int32.add_zero]
        exact kk
      · obtain ⟨ρ, hρ, hfr2, hdo⟩ := sp_X12_does (H := (am_it (pu_rnS σ sr ln Lc s) (0, H, D) k).2.1) (D := (am_it (pu_rnS σ sr ln Lc s) (0, H, D) k).2.2) xs LL l hl2 hwf (am_RKx hfr hRK) hRLn (am_ROx hfr hRO) hRM (hok k)
        have hdo : ∀ d, am_X xs LL (d + 2) 197 [.ref 47, .int (nI l)] (hG σ sr ln Lc ν) (some (.int (am_b2 (pu_actF (σ 4) (σ 1) (σ 2) (σ 3) (sr l) (ln l) (am_it (pu_rnS σ sr ln Lc s) (0, H, D) k).2).1))) (hG σ sr ln Lc ρ) := hdo
        have hq : (am_it (pu_rnS σ sr ln Lc s) (0, H, D) (k + 1)) = (bif (pu_actF (σ 4) (σ 1) (σ 2) (σ 3) (sr l) (ln l) (am_it (pu_rnS σ sr ln Lc s) (0, H, D) k).2).1 then (am_it (pu_rnS σ sr ln Lc s) (0, H, D) k).1 + 1 else (am_it (pu_rnS σ sr ln Lc s) (0, H, D) k).1, (pu_actF (σ 4) (σ 1) (σ 2) (σ 3) (sr l) (ln l) (am_it (pu_rnS σ sr ln Lc s) (0, H, D) k).2).2) := by rw [am_itS, pu_rnS_eq hl]; exact if_neg hon
        obtain ⟨ν1, k1, k2, k3⟩ := ih (k + 1) ρ (by omega) (by rw [hq]; exact hρ) (fun j hj => (hfr2 j hj).trans (hfr j hj))
        refine ⟨ν1, k1, k2, fun d w => ?_⟩
        have kk := k3 d (some (.int (nI l)))
        rw [hq] at kk
        cases hb : (pu_actF (σ 4) (σ 1) (σ 2) (σ 3) (sr l) (ln l) (am_it (pu_rnS σ sr ln Lc s) (0, H, D) k).2).1 with
        | true =>
          rw [hb] at kk hdo
          refine am_g 3 (if (nI n) ≤ (nI k) then 158 else 103) [some (.ref 47), some (.int (nI s)), some (.int (nI n)), some (.long (lN (pu_lot s k))), none, some (.int (nI (am_it (pu_rnS σ sr ln Lc s) (0, H, D) k).1)), some (.int (nI k)), w] [] (hG σ sr ln Lc ν) rfl ?_
          rw [if_neg (show ¬ (nI n) ≤ (nI k) from (nI_ge hi2 (by omega)))]
          refine am_g 4 111 [some (.ref 47), some (.int (nI s)), some (.int (nI n)), some (.long (lN (pu_lot s k))), none, some (.int (nI (am_it (pu_rnS σ sr ln Lc s) (0, H, D) k).1)), some (.int (nI k)), w] [.long 2147483647, .long ((lN (pu_lot s k)) * 48271)] (hG σ sr ln Lc ν) rfl ?_
          refine am_lremR (a := ((pu_lot s k) * 48271)) (b := 2147483647) rfl ((by rw [show (48271 : Int64) = lN 48271 from rfl, lN_mul])) (rfl) (by omega) (by omega) (by omega) ?_
          refine am_g 4 118 [some (.ref 47), some (.int (nI s)), some (.int (nI n)), some (.long (lN (((pu_lot s k) * 48271) % 2147483647))), none, some (.int (nI (am_it (pu_rnS σ sr ln Lc s) (0, H, D) k).1)), some (.int (nI k)), w] [.int (ν 17 0), .long (lN (((pu_lot s k) * 48271) % 2147483647))] (hG σ sr ln Lc ν) rfl ?_
          rw [show (ν 17 0) = (nI Lc) from hRLn.1]
          refine am_g 1 119 [some (.ref 47), some (.int (nI s)), some (.int (nI n)), some (.long (lN (((pu_lot s k) * 48271) % 2147483647))), none, some (.int (nI (am_it (pu_rnS σ sr ln Lc s) (0, H, D) k).1)), some (.int (nI k)), w] [.long ((nI Lc).toInt64), .long (lN (((pu_lot s k) * 48271) % 2147483647))] (hG σ sr ln Lc ν) rfl ?_
          refine am_lremR (a := (((pu_lot s k) * 48271) % 2147483647)) (b := Lc) rfl (rfl) ((nI_l (by omega))) (by omega) (by omega) (by omega) ?_
          refine am_g 1 121 [some (.ref 47), some (.int (nI s)), some (.int (nI n)), some (.long (lN (((pu_lot s k) * 48271) % 2147483647))), none, some (.int (nI (am_it (pu_rnS σ sr ln Lc s) (0, H, D) k).1)), some (.int (nI k)), w] [.int ((lN ((((pu_lot s k) * 48271) % 2147483647) % Lc)).toInt32)] (hG σ sr ln Lc ν) rfl ?_
          rw [lN_i]
          rw [show ((((pu_lot s k) * 48271) % 2147483647) % Lc) = l from hl]
          refine am_g 5 131 [some (.ref 47), some (.int (nI s)), some (.int (nI n)), some (.long (lN (((pu_lot s k) * 48271) % 2147483647))), none, some (.int (nI (am_it (pu_rnS σ sr ln Lc s) (0, H, D) k).1)), some (.int (nI k)), some (.int (nI l))] [.int (nI l), .ref 60, .int (nI (am_it (pu_rnS σ sr ln Lc s) (0, H, D) k).1)] (hG σ sr ln Lc ν) rfl ?_
          refine am_baldV (n := 40) (f := (ν 14)) (k := l) (w := (ln l 6)) rfl rfl (rfl) (by omega) (by decide) (hRLn.2.2.2.2.2.2.2.2.1 l hl2) ?_
          refine am_g 1 (if (ln l 6) = 0 then 148 else 135) [some (.ref 47), some (.int (nI s)), some (.int (nI n)), some (.long (lN (((pu_lot s k) * 48271) % 2147483647))), none, some (.int (nI (am_it (pu_rnS σ sr ln Lc s) (0, H, D) k).1)), some (.int (nI k)), some (.int (nI l))] [.int (nI (am_it (pu_rnS σ sr ln Lc s) (0, H, D) k).1)] (hG σ sr ln Lc ν) rfl ?_
          rw [if_neg (show ¬ (ln l 6) = 0 from hon)]
          refine am_g 2 138 [some (.ref 47), some (.int (nI s)), some (.int (nI n)), some (.long (lN (((pu_lot s k) * 48271) % 2147483647))), none, some (.int (nI (am_it (pu_rnS σ sr ln Lc s) (0, H, D) k).1)), some (.int (nI k)), some (.int (nI l))] [.int (nI l), .ref 47, .int (nI (am_it (pu_rnS σ sr ln Lc s) (0, H, D) k).1)] (hG σ sr ln Lc ν) rfl ?_
          refine am_call (y := 197) (vs := [.ref 47, .int (nI l)]) (rest := [.int (nI (am_it (pu_rnS σ sr ln Lc s) (0, H, D) k).1)]) (v := (some (.int 1))) (h1 := (hG σ sr ln Lc ρ)) rfl rfl rfl (hdo (d + 3)) ?_
          refine am_g 7 97 [some (.ref 47), some (.int (nI s)), some (.int (nI n)), some (.long (lN (((pu_lot s k) * 48271) % 2147483647))), none, some (.int ((nI (am_it (pu_rnS σ sr ln Lc s) (0, H, D) k).1) + 1)), some (.int ((nI k) + 1)), some (.int (nI l))] [] (hG σ sr ln Lc ρ) rfl ?_
          rw [nI_up, nI_up]
          exact kk
        | false =>
          rw [hb] at kk hdo
          refine am_g 3 (if (nI n) ≤ (nI k) then 158 else 103) [some (.ref 47), some (.int (nI s)), some (.int (nI n)), some (.long (lN (pu_lot s k))), none, some (.int (nI (am_it (pu_rnS σ sr ln Lc s) (0, H, D) k).1)), some (.int (nI k)), w] [] (hG σ sr ln Lc ν) rfl ?_
          rw [if_neg (show ¬ (nI n) ≤ (nI k) from (nI_ge hi2 (by omega)))]
          refine am_g 4 111 [some (.ref 47), some (.int (nI s)), some (.int (nI n)), some (.long (lN (pu_lot s k))), none, some (.int (nI (am_it (pu_rnS σ sr ln Lc s) (0, H, D) k).1)), some (.int (nI k)), w] [.long 2147483647, .long ((lN (pu_lot s k)) * 48271)] (hG σ sr ln Lc ν) rfl ?_
          refine am_lremR (a := ((pu_lot s k) * 48271)) (b := 2147483647) rfl ((by rw [show (48271 : Int64) = lN 48271 from rfl, lN_mul])) (rfl) (by omega) (by omega) (by omega) ?_
          refine am_g 4 118 [some (.ref 47), some (.int (nI s)), some (.int (nI n)), some (.long (lN (((pu_lot s k) * 48271) % 2147483647))), none, some (.int (nI (am_it (pu_rnS σ sr ln Lc s) (0, H, D) k).1)), some (.int (nI k)), w] [.int (ν 17 0), .long (lN (((pu_lot s k) * 48271) % 2147483647))] (hG σ sr ln Lc ν) rfl ?_
          rw [show (ν 17 0) = (nI Lc) from hRLn.1]
          refine am_g 1 119 [some (.ref 47), some (.int (nI s)), some (.int (nI n)), some (.long (lN (((pu_lot s k) * 48271) % 2147483647))), none, some (.int (nI (am_it (pu_rnS σ sr ln Lc s) (0, H, D) k).1)), some (.int (nI k)), w] [.long ((nI Lc).toInt64), .long (lN (((pu_lot s k) * 48271) % 2147483647))] (hG σ sr ln Lc ν) rfl ?_
          refine am_lremR (a := (((pu_lot s k) * 48271) % 2147483647)) (b := Lc) rfl (rfl) ((nI_l (by omega))) (by omega) (by omega) (by omega) ?_
          refine am_g 1 121 [some (.ref 47), some (.int (nI s)), some (.int (nI n)), some (.long (lN (((pu_lot s k) * 48271) % 2147483647))), none, some (.int (nI (am_it (pu_rnS σ sr ln Lc s) (0, H, D) k).1)), some (.int (nI k)), w] [.int ((lN ((((pu_lot s k) * 48271) % 2147483647) % Lc)).toInt32)] (hG σ sr ln Lc ν) rfl ?_
          rw [lN_i]
          rw [show ((((pu_lot s k) * 48271) % 2147483647) % Lc) = l from hl]
          refine am_g 5 131 [some (.ref 47), some (.int (nI s)), some (.int (nI n)), some (.long (lN (((pu_lot s k) * 48271) % 2147483647))), none, some (.int (nI (am_it (pu_rnS σ sr ln Lc s) (0, H, D) k).1)), some (.int (nI k)), some (.int (nI l))] [.int (nI l), .ref 60, .int (nI (am_it (pu_rnS σ sr ln Lc s) (0, H, D) k).1)] (hG σ sr ln Lc ν) rfl ?_
          refine am_baldV (n := 40) (f := (ν 14)) (k := l) (w := (ln l 6)) rfl rfl (rfl) (by omega) (by decide) (hRLn.2.2.2.2.2.2.2.2.1 l hl2) ?_
          refine am_g 1 (if (ln l 6) = 0 then 148 else 135) [some (.ref 47), some (.int (nI s)), some (.int (nI n)), some (.long (lN (((pu_lot s k) * 48271) % 2147483647))), none, some (.int (nI (am_it (pu_rnS σ sr ln Lc s) (0, H, D) k).1)), some (.int (nI k)), some (.int (nI l))] [.int (nI (am_it (pu_rnS σ sr ln Lc s) (0, H, D) k).1)] (hG σ sr ln Lc ν) rfl ?_
          rw [if_neg (show ¬ (ln l 6) = 0 from hon)]
          refine am_g 2 138 [some (.ref 47), some (.int (nI s)), some (.int (nI n)), some (.long (lN (((pu_lot s k) * 48271) % 2147483647))), none, some (.int (nI (am_it (pu_rnS σ sr ln Lc s) (0, H, D) k).1)), some (.int (nI k)), some (.int (nI l))] [.int (nI l), .ref 47, .int (nI (am_it (pu_rnS σ sr ln Lc s) (0, H, D) k).1)] (hG σ sr ln Lc ν) rfl ?_
          refine am_call (y := 197) (vs := [.ref 47, .int (nI l)]) (rest := [.int (nI (am_it (pu_rnS σ sr ln Lc s) (0, H, D) k).1)]) (v := (some (.int 0))) (h1 := (hG σ sr ln Lc ρ)) rfl rfl rfl (hdo (d + 3)) ?_
          refine am_g 6 97 [some (.ref 47), some (.int (nI s)), some (.int (nI n)), some (.long (lN (((pu_lot s k) * 48271) % 2147483647))), none, some (.int ((nI (am_it (pu_rnS σ sr ln Lc s) (0, H, D) k).1) + 0)), some (.int ((nI k) + 1)), some (.int (nI l))] [] (hG σ sr ln Lc ρ) rfl ?_
          rw [nI_up, Int32.add_zero]
          exact kk
  obtain ⟨ν1, k1, k2, k3⟩ := lp n 0 (am_up (am_up (am_up μ 30 (am_fill (fun _ => (-1)) (μ 30) 20 0)) 31 (am_fill (fun _ => 0) (μ 31) 20 0)) 32 (am_fill (fun _ => (-1)) (μ 32) 48 0)) (by omega) ⟨fun q hq => (show am_fill (fun _ => (-1)) (μ 30) 20 0 q = H q from (if_pos ⟨Nat.zero_le _, hq⟩).trans (hH0 q (by omega)).symm), fun q hq => (show am_fill (fun _ => 0) (μ 31) 20 0 q = D q from (if_pos ⟨Nat.zero_le _, hq⟩).trans (hD0 q hq).symm), fun q hq => (show am_fill (fun _ => (-1)) (μ 32) 48 0 q = H (20 + q) from (if_pos ⟨Nat.zero_le _, hq⟩).trans (hH0 (20 + q) (by omega)).symm)⟩ (fun j hj => by rw [am_up_ne (by omega), am_up_ne (by omega), am_up_ne (by omega)])
  refine ⟨ν1, k1, k2, fun d => ?_⟩
  refine am_XR (d := d + 5) (C := cd_X12_run) (L := [some (.ref 47), some (.int (nI s)), some (.int (nI n)), none, none, none, none, none]) rfl rfl rfl rfl ?_
  refine am_g 4 6 [some (.ref 47), some (.int (nI s)), some (.int (nI n)), none, none, none, none, none] [.long 99999, .long 0, .long ((nI s).toInt64)] (hG σ sr ln Lc μ) rfl ?_
  refine am_call (y := 140) (vs := [.long ((nI s).toInt64), .long 0, .long 99999]) (rest := []) (v := (some (.int 1))) (h1 := (hG σ sr ln Lc μ)) rfl rfl rfl (sp_X12_in_b (d + 4) _ _ _ _ (am_b99 hs)) ?_
  refine am_g 5 18 [some (.ref 47), some (.int (nI s)), some (.int (nI n)), none, none, none, none, none] [.long 500, .long 0, .long ((nI n).toInt64)] (hG σ sr ln Lc μ) rfl ?_
  refine am_call (y := 140) (vs := [.long ((nI n).toInt64), .long 0, .long 500]) (rest := []) (v := (some (.int 1))) (h1 := (hG σ sr ln Lc μ)) rfl rfl rfl (sp_X12_in_b (d + 4) _ _ _ _ (am_b500 hn)) ?_
  refine am_g 3 31 [some (.ref 47), some (.int (nI s)), some (.int (nI n)), none, none, none, none, none] [.int (μ 17 0)] (hG σ sr ln Lc μ) rfl ?_
  rw [show (μ 17 0) = (nI Lc) from hRL.1]
  refine am_g 1 (if (nI Lc) = 0 then 34 else 37) [some (.ref 47), some (.int (nI s)), some (.int (nI n)), none, none, none, none, none] [] (hG σ sr ln Lc μ) rfl ?_
  rw [if_neg (show ¬ (nI Lc) = 0 from (nI_ne0 hL0 (by omega)))]
  refine am_g 2 39 [some (.ref 47), some (.int (nI s)), some (.int (nI n)), some (.int 0), none, none, none, none] [] (hG σ sr ln Lc μ) rfl ?_
  have lpa : ∀ (ra i : Nat), i + ra = 20 → am_R xs LL cd_X12_run (am_X xs LL (d + 5)) 39 [some (.ref 47), some (.int (nI s)), some (.int (nI n)), some (.int (nI i)), none, none, none, none] [] (hG σ sr ln Lc (am_up (am_up μ 30 (am_fill (fun _ => (-1)) (μ 30) i 0)) 31 (am_fill (fun _ => 0) (μ 31) i 0))) (some (.int (nI (am_it (pu_rnS σ sr ln Lc s) (0, H, D) n).1))) (hG σ sr ln Lc ν1) := by
    intro ra
    induction ra with
    | zero =>
      intro i  hia
      have hi2a : i = 20 := by omega
      rw [hi2a]
      refine am_g 3 (if 20 ≤ (nI 20) then 65 else 45) [some (.ref 47), some (.int (nI s)), some (.int (nI n)), some (.int (nI 20)), none, none, none, none] [] (hG σ sr ln Lc (am_up (am_up μ 30 (am_fill (fun _ => (-1)) (μ 30) 20 0)) 31 (am_fill (fun _ => 0) (μ 31) 20 0))) rfl ?_
      rw [if_pos (show 20 ≤ (nI 20) from (am_dle (a := 20) (b := 20) (rfl) (rfl) (by omega) (by omega) (by omega)))]
      refine am_g 2 67 [some (.ref 47), some (.int (nI s)), some (.int (nI n)), some (.int 0), none, none, none, none] [] (hG σ sr ln Lc (am_up (am_up μ 30 (am_fill (fun _ => (-1)) (μ 30) 20 0)) 31 (am_fill (fun _ => 0) (μ 31) 20 0))) rfl ?_
      have lpb : ∀ (rb i : Nat), i + rb = 48 → am_R xs LL cd_X12_run (am_X xs LL (d + 5)) 67 [some (.ref 47), some (.int (nI s)), some (.int (nI n)), some (.int (nI i)), none, none, none, none] [] (hG σ sr ln Lc (am_up (am_up (am_up μ 30 (am_fill (fun _ => (-1)) (μ 30) 20 0)) 31 (am_fill (fun _ => 0) (μ 31) 20 0)) 32 (am_fill (fun _ => (-1)) (μ 32) i 0))) (some (.int (nI (am_it (pu_rnS σ sr ln Lc s) (0, H, D) n).1))) (hG σ sr ln Lc ν1) := by
        intro rb
        induction rb with
        | zero =>
          intro i  hib
          have hi2b : i = 48 := by omega
          rw [hi2b]
          refine am_g 3 (if 48 ≤ (nI 48) then 86 else 73) [some (.ref 47), some (.int (nI s)), some (.int (nI n)), some (.int (nI 48)), none, none, none, none] [] (hG σ sr ln Lc (am_up (am_up (am_up μ 30 (am_fill (fun _ => (-1)) (μ 30) 20 0)) 31 (am_fill (fun _ => 0) (μ 31) 20 0)) 32 (am_fill (fun _ => (-1)) (μ 32) 48 0))) rfl ?_
          rw [if_pos (show 48 ≤ (nI 48) from (am_dle (a := 48) (b := 48) (rfl) (rfl) (by omega) (by omega) (by omega)))]
          refine am_g 5 91 [some (.ref 47), some (.int (nI s)), some (.int (nI n)), some (.long (((nI s).toInt64) + 1)), none, none, none, none] [] (hG σ sr ln Lc (am_up (am_up (am_up μ 30 (am_fill (fun _ => (-1)) (μ 30) 20 0)) 31 (am_fill (fun _ => 0) (μ 31) 20 0)) 32 (am_fill (fun _ => (-1)) (μ 32) 48 0))) rfl ?_
          rw [show (nI s).toInt64 + 1 = lN (pu_lot s 0) from by rw [nI_l (by omega)]; exact lN_1 s]
          refine am_g 4 97 [some (.ref 47), some (.int (nI s)), some (.int (nI n)), some (.long (lN (pu_lot s 0))), none, some (.int 0), some (.int 0), none] [] (hG σ sr ln Lc (am_up (am_up (am_up μ 30 (am_fill (fun _ => (-1)) (μ 30) 20 0)) 31 (am_fill (fun _ => 0) (μ 31) 20 0)) 32 (am_fill (fun _ => (-1)) (μ 32) 48 0))) rfl ?_
          have kk := k3 d none
          exact kk
        | succ rb ihb =>
          intro i  hib
          have hi2b : i < 48 := by omega
          refine am_g 3 (if 48 ≤ (nI i) then 86 else 73) [some (.ref 47), some (.int (nI s)), some (.int (nI n)), some (.int (nI i)), none, none, none, none] [] (hG σ sr ln Lc (am_up (am_up (am_up μ 30 (am_fill (fun _ => (-1)) (μ 30) 20 0)) 31 (am_fill (fun _ => 0) (μ 31) 20 0)) 32 (am_fill (fun _ => (-1)) (μ 32) i 0))) rfl ?_
          rw [if_neg (show ¬ 48 ≤ (nI i) from (am_dnle (a := 48) (b := i) (rfl) (rfl) (by omega) (by omega) (by omega)))]
          refine am_g 4 79 [some (.ref 47), some (.int (nI s)), some (.int (nI n)), some (.int (nI i)), none, none, none, none] [.int (-1), .int (nI i), .ref 70] (hG σ sr ln Lc (am_up (am_up (am_up μ 30 (am_fill (fun _ => (-1)) (μ 30) 20 0)) 31 (am_fill (fun _ => 0) (μ 31) 20 0)) 32 (am_fill (fun _ => (-1)) (μ 32) i 0))) rfl ?_
          refine am_iastR (n := 48) (f := (am_fill (fun _ => (-1)) (μ 32) i 0)) (k := i) (h1 := (hG σ sr ln Lc (am_up (am_up (am_up μ 30 (am_fill (fun _ => (-1)) (μ 30) 20 0)) 31 (am_fill (fun _ => 0) (μ 31) 20 0)) 32 (upd (am_fill (fun _ => (-1)) (μ 32) i 0) i (-1))))) rfl rfl (rfl) (by omega) (by decide) rfl ?_
          refine am_g 2 67 [some (.ref 47), some (.int (nI s)), some (.int (nI n)), some (.int ((nI i) + 1)), none, none, none, none] [] (hG σ sr ln Lc (am_up (am_up (am_up μ 30 (am_fill (fun _ => (-1)) (μ 30) 20 0)) 31 (am_fill (fun _ => 0) (μ 31) 20 0)) 32 (upd (am_fill (fun _ => (-1)) (μ 32) i 0) i (-1)))) rfl ?_
          rw [nI_up, show upd (am_fill (fun _ => (-1)) (μ 32) i 0) i (-1) = am_fill (fun _ => (-1)) (μ 32) (i + 1) 0 from (pu_fillS (fun _ => (-1)) (μ 32) i).symm]
          exact ihb (i + 1) (by omega)
      have e := lpb 48 0 (by omega)
      rw [pu_fill0] at e
      exact e
    | succ ra iha =>
      intro i  hia
      have hi2a : i < 20 := by omega
      refine am_g 3 (if 20 ≤ (nI i) then 65 else 45) [some (.ref 47), some (.int (nI s)), some (.int (nI n)), some (.int (nI i)), none, none, none, none] [] (hG σ sr ln Lc (am_up (am_up μ 30 (am_fill (fun _ => (-1)) (μ 30) i 0)) 31 (am_fill (fun _ => 0) (μ 31) i 0))) rfl ?_
      rw [if_neg (show ¬ 20 ≤ (nI i) from (am_dnle (a := 20) (b := i) (rfl) (rfl) (by omega) (by omega) (by omega)))]
      refine am_g 4 51 [some (.ref 47), some (.int (nI s)), some (.int (nI n)), some (.int (nI i)), none, none, none, none] [.int (-1), .int (nI i), .ref 68] (hG σ sr ln Lc (am_up (am_up μ 30 (am_fill (fun _ => (-1)) (μ 30) i 0)) 31 (am_fill (fun _ => 0) (μ 31) i 0))) rfl ?_
      refine am_iastR (n := 20) (f := (am_fill (fun _ => (-1)) (μ 30) i 0)) (k := i) (h1 := (hG σ sr ln Lc (am_up (am_up μ 31 (am_fill (fun _ => 0) (μ 31) i 0)) 30 (upd (am_fill (fun _ => (-1)) (μ 30) i 0) i (-1))))) rfl rfl (rfl) (by omega) (by decide) rfl ?_
      refine am_g 4 58 [some (.ref 47), some (.int (nI s)), some (.int (nI n)), some (.int (nI i)), none, none, none, none] [.int 0, .int (nI i), .ref 69] (hG σ sr ln Lc (am_up (am_up μ 31 (am_fill (fun _ => 0) (μ 31) i 0)) 30 (upd (am_fill (fun _ => (-1)) (μ 30) i 0) i (-1)))) rfl ?_
      refine am_iastR (n := 20) (f := (am_fill (fun _ => 0) (μ 31) i 0)) (k := i) (h1 := (hG σ sr ln Lc (am_up (am_up μ 30 (upd (am_fill (fun _ => (-1)) (μ 30) i 0) i (-1))) 31 (upd (am_fill (fun _ => 0) (μ 31) i 0) i 0)))) rfl rfl (rfl) (by omega) (by decide) rfl ?_
      refine am_g 2 39 [some (.ref 47), some (.int (nI s)), some (.int (nI n)), some (.int ((nI i) + 1)), none, none, none, none] [] (hG σ sr ln Lc (am_up (am_up μ 30 (upd (am_fill (fun _ => (-1)) (μ 30) i 0) i (-1))) 31 (upd (am_fill (fun _ => 0) (μ 31) i 0) i 0))) rfl ?_
      rw [nI_up, show upd (am_fill (fun _ => (-1)) (μ 30) i 0) i (-1) = am_fill (fun _ => (-1)) (μ 30) (i + 1) 0 from (pu_fillS (fun _ => (-1)) (μ 30) i).symm, show upd (am_fill (fun _ => 0) (μ 31) i 0) i 0 = am_fill (fun _ => 0) (μ 31) (i + 1) 0 from (pu_fillS (fun _ => 0) (μ 31) i).symm]
      exact iha (i + 1) (by omega)
  have e := lpa 20 0 (by omega)
  rw [pu_fill0, pu_fill0, am_up_id, am_up_id] at e
  exact e
theorem sp_X12_run_bad (d : Nat) (s n : Int32) (hbad : (decide ((0 : Int32) ≤ s ∧ s ≤ 99999) && decide ((0 : Int32) ≤ n ∧ n ≤ 500)) = false) : am_X xs LL (d + 3) 198 [.ref 47, .int s, .int n] (hG σ sr ln Lc μ) (some (.int (-2))) (hG σ sr ln Lc μ) := by
  refine am_XR (d := d + 2) (C := cd_X12_run) (L := [some (.ref 47), some (.int s), some (.int n), none, none, none, none, none]) rfl rfl rfl rfl ?_
  refine am_g 4 6 [some (.ref 47), some (.int s), some (.int n), none, none, none, none, none] [.long 99999, .long 0, .long (s.toInt64)] (hG σ sr ln Lc μ) rfl ?_
  cases e1 : decide (0 ≤ (s.toInt64) ∧ (s.toInt64) ≤ 99999) with
  | false =>
    refine am_call (y := 140) (vs := [.long (s.toInt64), .long 0, .long 99999]) (rest := []) (v := (some (.int 0))) (h1 := (hG σ sr ln Lc μ)) rfl rfl rfl (sp_X12_in_b (d + 1) _ _ _ _ e1) ?_
    refine am_g 2 26 [some (.ref 47), some (.int s), some (.int n), none, none, none, none, none] [.int (-2)] (hG σ sr ln Lc μ) rfl ?_
    exact am_ret2 rfl rfl rfl rfl rfl
  | true =>
    refine am_call (y := 140) (vs := [.long (s.toInt64), .long 0, .long 99999]) (rest := []) (v := (some (.int 1))) (h1 := (hG σ sr ln Lc μ)) rfl rfl rfl (sp_X12_in_b (d + 1) _ _ _ _ e1) ?_
    refine am_g 5 18 [some (.ref 47), some (.int s), some (.int n), none, none, none, none, none] [.long 500, .long 0, .long (n.toInt64)] (hG σ sr ln Lc μ) rfl ?_
    cases e2 : decide (0 ≤ (n.toInt64) ∧ (n.toInt64) ≤ 500) with
    | false =>
      refine am_call (y := 140) (vs := [.long (n.toInt64), .long 0, .long 500]) (rest := []) (v := (some (.int 0))) (h1 := (hG σ sr ln Lc μ)) rfl rfl rfl (sp_X12_in_b (d + 1) _ _ _ _ e2) ?_
      refine am_g 2 26 [some (.ref 47), some (.int s), some (.int n), none, none, none, none, none] [.int (-2)] (hG σ sr ln Lc μ) rfl ?_
      exact am_ret2 rfl rfl rfl rfl rfl
    | true =>
      refine am_call (y := 140) (vs := [.long (n.toInt64), .long 0, .long 500]) (rest := []) (v := (some (.int 1))) (h1 := (hG σ sr ln Lc μ)) rfl rfl rfl (sp_X12_in_b (d + 1) _ _ _ _ e2) ?_
      refine am_g 1 27 [some (.ref 47), some (.int s), some (.int n), none, none, none, none, none] [] (hG σ sr ln Lc μ) rfl ?_
      rw [am_b99x] at e1
      rw [am_b500x] at e2
      rw [e1, e2] at hbad
      cases hbad
theorem sp_X12_run_state (d : Nat) (s n : Int32) (h1 : decide ((0 : Int32) ≤ s ∧ s ≤ 99999) = true) (h2 : decide ((0 : Int32) ≤ n ∧ n ≤ 500) = true) (h0 : μ 17 0 = 0) : am_X xs LL (d + 3) 198 [.ref 47, .int s, .int n] (hG σ sr ln Lc μ) (some (.int (-3))) (hG σ sr ln Lc μ) := by
  refine am_XR (d := d + 2) (C := cd_X12_run) (L := [some (.ref 47), some (.int s), some (.int n), none, none, none, none, none]) rfl rfl rfl rfl ?_
  refine am_g 4 6 [some (.ref 47), some (.int s), some (.int n), none, none, none, none, none] [.long 99999, .long 0, .long (s.toInt64)] (hG σ sr ln Lc μ) rfl ?_
  refine am_call (y := 140) (vs := [.long (s.toInt64), .long 0, .long 99999]) (rest := []) (v := (some (.int 1))) (h1 := (hG σ sr ln Lc μ)) rfl rfl rfl (sp_X12_in_b (d + 1) _ _ _ _ (am_b99x.trans h1)) ?_
  refine am_g 5 18 [some (.ref 47), some (.int s), some (.int n), none, none, none, none, none] [.long 500, .long 0, .long (n.toInt64)] (hG σ sr ln Lc μ) rfl ?_
  refine am_call (y := 140) (vs := [.long (n.toInt64), .long 0, .long 500]) (rest := []) (v := (some (.int 1))) (h1 := (hG σ sr ln Lc μ)) rfl rfl rfl (sp_X12_in_b (d + 1) _ _ _ _ (am_b500x.trans h2)) ?_
  refine am_g 4 (if (μ 17 0) = 0 then 34 else 37) [some (.ref 47), some (.int s), some (.int n), none, none, none, none, none] [] (hG σ sr ln Lc μ) rfl ?_
  rw [if_pos (show (μ 17 0) = 0 from h0)]
  refine am_g 1 36 [some (.ref 47), some (.int s), some (.int n), none, none, none, none, none] [.int (-3)] (hG σ sr ln Lc μ) rfl ?_
  exact am_ret2 rfl rfl rfl rfl rfl
end MN
