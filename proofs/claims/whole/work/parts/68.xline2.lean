/-! the class: line -/
def hXN (σ : Nat → Nat → Int32) (c : Int32) (arr : Nat → Option Nat) (μ : Nat → Nat → Int32) : am_H := [
  .inr (11, [.ref 15, .ref 20, .ref 22, .int c, .ref 23, .ref 27, .ref 31, .ref 35, .ref 38]),
  .inr (3, [.ref 16, .ref 17, .ref 18, .ref 19, .int (σ 5 0), .int (σ 6 0)]),
  .inl (0, 8, .inl (σ 1)),
  .inl (0, 24, .inl (σ 2)),
  .inl (0, 18, .inl (σ 3)),
  .inl (0, 16, .inl (σ 4)),
  .inr (9, [.ref 21, .int (σ 8 0)]),
  .inl (0, 20, .inl (σ 7)),
  .inl (2, 40, .inr arr),
  .inr (7, [.ref 15, .int 0, .ref 22, .int (σ 10 0), .int (σ 11 0), .ref 24, .ref 25, .ref 26]),
  .inl (0, 68, .inl (σ 12)),
  .inl (0, 68, .inl (σ 13)),
  .inl (0, 320, .inl (σ 14)),
  .inr (7, [.ref 15, .int 1, .ref 22, .int (σ 20 0), .int (σ 21 0), .ref 28, .ref 29, .ref 30]),
  .inl (0, 68, .inl (σ 22)),
  .inl (0, 68, .inl (σ 23)),
  .inl (0, 320, .inl (σ 24)),
  .inr (7, [.ref 15, .int 0, .ref 22, .int (σ 30 0), .int (σ 31 0), .ref 32, .ref 33, .ref 34]),
  .inl (0, 68, .inl (σ 32)),
  .inl (0, 68, .inl (σ 33)),
  .inl (0, 320, .inl (σ 34)),
  .inr (4, [.ref 15, .ref 36, .ref 37]),
  .inl (0, 68, .inl (σ 40)),
  .inl (0, 68, .inl (σ 41)),
  .inl (3, 4, .inr (fun j => if j < 4 then some (39 + 2 * j) else none)),
  .inr (8, [.ref 40, .int (σ 51 0), .int (σ 52 0)]),
  .inl (0, 40, .inl (σ 50)),
  .inr (8, [.ref 42, .int (σ 54 0), .int (σ 55 0)]),
  .inl (0, 40, .inl (σ 53)),
  .inr (8, [.ref 44, .int (σ 57 0), .int (σ 58 0)]),
  .inl (0, 40, .inl (σ 56)),
  .inr (8, [.ref 46, .int (σ 60 0), .int (σ 61 0)]),
  .inl (0, 40, .inl (σ 59)),
  .inr (12, [.int (μ 0 0), .ref 48, .ref 49, .int (μ 3 0), .ref 50, .ref 51, .ref 52, .ref 53, .ref 54, .ref 55, .ref 56, .ref 57, .ref 58, .ref 59, .ref 60, .ref 61, .ref 62, .int (μ 17 0), .ref 63, .int (μ 19 0), .ref 64, .int (μ 21 0), .int (μ 22 0), .int (μ 23 0), .ref 65, .ref 66, .int (μ 26 0), .int (μ 27 0), .int (μ 28 0), .ref 67, .ref 68, .ref 69, .ref 70, .ref 71, .ref 72, .ref 73, .ref 74]),
  .inl (0, 8, .inl (μ 1)),
  .inl (0, 24, .inl (μ 2)),
  .inl (0, 6, .inl (μ 4)),
  .inl (0, 6, .inl (μ 5)),
  .inl (0, 6, .inl (μ 6)),
  .inl (0, 40, .inl (μ 7)),
  .inl (0, 40, .inl (μ 8)),
  .inl (0, 40, .inl (μ 9)),
  .inl (0, 40, .inl (μ 10)),
  .inl (0, 40, .inl (μ 11)),
  .inl (0, 40, .inl (μ 12)),
  .inl (0, 40, .inl (μ 13)),
  .inl (1, 40, .inl (μ 14)),
  .inl (0, 40, .inl (μ 15)),
  .inl (0, 40, .inl (μ 16)),
  .inl (0, 16, .inl (μ 18)),
  .inl (0, 20, .inl (μ 20)),
  .inl (0, 68, .inl (μ 24)),
  .inl (0, 68, .inl (μ 25)),
  .inl (0, 20, .inl (μ 29)),
  .inl (0, 20, .inl (μ 30)),
  .inl (0, 20, .inl (μ 31)),
  .inl (0, 48, .inl (μ 32)),
  .inl (1, 4, .inl (μ 33)),
  .inl (0, 4, .inl (μ 34)),
  .inl (0, 4, .inl (μ 35)),
  .inl (0, 160, .inl (μ 36))]
def hXY (σ : Nat → Nat → Int32) (c : Int32) (arr : Nat → Option Nat) (μ : Nat → Nat → Int32) (cs : am_H) : am_H := hXN σ c arr μ ++ cs
def pu_arr (Lc : Nat) : Nat → Option Nat := fun j => if j < Lc then some (75 + j) else none
theorem hXY_hXC {σ μ : Nat → Nat → Int32} {Lc : Nat} {cs : am_H} : hXC σ Lc μ cs = hXY σ (nI Lc) (pu_arr Lc) μ cs := rfl
def pu_srn (sr : Nat → Nat) (n s : Nat) : Nat → Nat := fun j => bif Nat.beq j n then s else sr j
def pu_row (l : List Int32) : Nat → Int32 := fun j => l.getD j 0
theorem pu_arrS (n : Nat) : va_up (pu_arr n) n (some (75 + n)) = pu_arr (n + 1) := by
  funext j
  unfold va_up pu_arr
  by_cases h : j = n
  · subst h
    rw [if_pos rfl, if_pos (Nat.lt_succ_self _)]
  · rw [if_neg h]
    by_cases h2 : j < n
    · rw [if_pos h2, if_pos (by omega)]
    · rw [if_neg h2, if_neg (by omega)]
theorem pu_beqN {j n : Nat} (h : ¬ j = n) : Nat.beq j n = false := by
  cases e : Nat.beq j n with
  | false => rfl
  | true => exact absurd (Nat.eq_of_beq_eq_true e) h
theorem hXY_hG {σ μ : Nat → Nat → Int32} {sr : Nat → Nat} {ln : Nat → Nat → Int32} {Lc s : Nat} {f : Nat → Int32} {c : am_E} (hc : c = .inr (am_lc s, [.int (f 0), .int (f 1), .int (f 2), .int (f 3), .int (f 4), .int (f 5), .int (f 6)] ++ (bif Nat.blt 3 s then [.int (f 7)] else []))) : hXY σ (nI Lc + 1) (va_up (pu_arr Lc) Lc (some (75 + Lc))) μ ((List.range Lc).map (hLn sr ln) ++ [c]) = hG σ (pu_srn sr Lc s) (am_up ln Lc f) (Lc + 1) μ := by
  have e : ((List.range (Lc + 1)).map (hLn (pu_srn sr Lc s) (am_up ln Lc f))) = (List.range Lc).map (hLn sr ln) ++ [c] := by
    rw [List.range_succ, List.map_append, List.map_singleton]
    congr 1
    · apply List.map_congr_left
      intro j hj
      have hj := List.mem_range.mp hj
      have hb : Nat.beq j Lc = false := pu_beqN (by omega)
      unfold hLn pu_srn am_up
      rw [hb]
      rfl
    · rw [hc]
      unfold hLn pu_srn am_up
      rw [Nat.beq_refl]
      rfl
  rw [pu_arrS, nI_up, hXC_hG, e, hXY_hXC]
section LN
variable {xs : Nat → Int32} {LL : Nat} {σ μ : Nat → Nat → Int32} {sr : Nat → Nat} {ln : Nat → Nat → Int32} {Lc : Nat}
theorem am_naastR {n ci a : Nat} {cs : am_H} {fs : List Value} {C : Nat → Option am_En} {K : Nat → List Value → am_H → Option Value → am_H → Prop} {pc : Nat} {L : am_L} {st : List Value} {r : Option Value} {h' : am_H} {v : Int} {tg : List (Nat × Nat)} {ps : List Nat} (hcs : cs.length = n) (hc : C pc = some (.aastore, 1, a, v, tg, ps)) (hl : am_look tg ci = some 2) (hn : Lc < 40) (kk : am_R xs LL C K (pc + 1) L st (hXY σ (nI Lc) (va_up (pu_arr Lc) Lc (some (75 + n))) μ (cs ++ [.inr (ci, fs)])) r h') : am_R xs LL C K pc L (.ref (75 + n) :: .int (nI Lc) :: .ref 22 :: st) (hXC σ Lc μ (cs ++ [.inr (ci, fs)])) r h' := by
  obtain ⟨h2, h3⟩ := am_in_of (j := nI Lc) rfl hn (by decide : 40 < 2 ^ 31)
  refine am_R1 (S := (pc + 1, L, st, hXY σ (nI Lc) (va_up (pu_arr Lc) Lc (some (75 + n))) μ (cs ++ [.inr (ci, fs)]))) hc rfl ?_ kk
  dsimp only [am_step]
  rw [am_getX hcs, show am_get (hXC σ Lc μ (cs ++ [.inr (ci, fs)])) 22 = some (.inl (2, 40, .inr (pu_arr Lc))) from rfl]
  show (match am_look tg ci with
      | some 2 => (if nI Lc < 0 ∨ 40 ≤ (nI Lc).toNatClampNeg then (none : Option am_S) else some (pc + 1, L, st, am_put (hXC σ Lc μ (cs ++ [(Sum.inr (ci, fs) : am_E)])) 22 (Sum.inl (2, 40, Sum.inr (va_up (pu_arr Lc) (nI Lc).toNatClampNeg (some (75 + n)))))))
      | _ => none) = _
  rw [hl]
  show (if nI Lc < 0 ∨ 40 ≤ (nI Lc).toNatClampNeg then (none : Option am_S) else some (pc + 1, L, st, am_put (hXC σ Lc μ (cs ++ [.inr (ci, fs)])) 22 (.inl (2, 40, .inr (va_up (pu_arr Lc) (nI Lc).toNatClampNeg (some (75 + n))))))) = _
  rw [if_neg h2, h3]
  rfl
theorem sp_X9_clear_y (d : Nat) {c : Int32} {arr : Nat → Option Nat} {cs : am_H} : am_X xs LL (d + 1) 72 [.ref 20] (hXY σ c arr μ cs) none (hXY (am_us σ 8 0) c arr μ cs) := by
  refine am_XR (d := d + 0) (C := cd_X9_clear) (L := [some (.ref 20)]) rfl rfl rfl rfl ?_
  refine am_g 3 5 [some (.ref 20)] [] (hXY (am_us σ 8 0) c arr μ cs) rfl ?_
  exact am_ret2 rfl rfl rfl rfl rfl
theorem sp_X11_forgetSets_y (d : Nat) {c : Int32} {arr : Nat → Option Nat} {cs : am_H} : am_X xs LL (d + 1) 131 [.ref 14] (hXY σ c arr μ cs) none (hXY (am_us (am_us σ 10 0) 20 0) c arr μ cs) := by
  refine am_XR (d := d + 0) (C := cd_X11_forgetSets) (L := [some (.ref 14)]) rfl rfl rfl rfl ?_
  refine am_g 8 16 [some (.ref 14)] [] (hXY (am_us (am_us σ 10 0) 20 0) c arr μ cs) rfl ?_
  exact am_ret2 rfl rfl rfl rfl rfl
theorem sp_X11_line_bad (d : Nat) (a b : Int32) (hbad : (am_in a 3 && am_in b 4) = false) : am_X xs LL (d + 2) 94 [.ref 14, .int a, .int b] (hG σ sr ln Lc μ) (some (.int (-2))) (hG σ sr ln Lc μ) := by
  refine am_XR (d := d + 1) (C := cd_X11_line) (L := [some (.ref 14), some (.int a), some (.int b), none, none]) rfl rfl rfl rfl ?_
  refine am_g 3 3 [some (.ref 14), some (.int a), some (.int b), none, none] [.int 2, .int 0, .int a] (hG σ sr ln Lc μ) rfl ?_
  cases e1 : decide (0 ≤ a ∧ a ≤ 2) with
  | false =>
    refine am_call (y := 122) (vs := [.int a, .int 0, .int 2]) (rest := []) (v := (some (.int 0))) (h1 := (hG σ sr ln Lc μ)) rfl rfl rfl (sp_X11_isWithin_b d _ _ _ _ e1) ?_
    refine am_g 2 20 [some (.ref 14), some (.int a), some (.int b), none, none] [.int (-2)] (hG σ sr ln Lc μ) rfl ?_
    exact am_ret2 rfl rfl rfl rfl rfl
  | true =>
    refine am_call (y := 122) (vs := [.int a, .int 0, .int 2]) (rest := []) (v := (some (.int 1))) (h1 := (hG σ sr ln Lc μ)) rfl rfl rfl (sp_X11_isWithin_b d _ _ _ _ e1) ?_
    refine am_g 4 12 [some (.ref 14), some (.int a), some (.int b), none, none] [.int 3, .int 0, .int b] (hG σ sr ln Lc μ) rfl ?_
    cases e2 : decide (0 ≤ b ∧ b ≤ 3) with
    | false =>
      refine am_call (y := 122) (vs := [.int b, .int 0, .int 3]) (rest := []) (v := (some (.int 0))) (h1 := (hG σ sr ln Lc μ)) rfl rfl rfl (sp_X11_isWithin_b d _ _ _ _ e2) ?_
      refine am_g 2 20 [some (.ref 14), some (.int a), some (.int b), none, none] [.int (-2)] (hG σ sr ln Lc μ) rfl ?_
      exact am_ret2 rfl rfl rfl rfl rfl
    | true =>
      refine am_call (y := 122) (vs := [.int b, .int 0, .int 3]) (rest := []) (v := (some (.int 1))) (h1 := (hG σ sr ln Lc μ)) rfl rfl rfl (sp_X11_isWithin_b d _ _ _ _ e2) ?_
      refine am_g 1 21 [some (.ref 14), some (.int a), some (.int b), none, none] [] (hG σ sr ln Lc μ) rfl ?_
      exfalso
      rw [am_wi (x := a) (n := 3) (c := 2) rfl] at e1
      rw [am_wi (x := b) (n := 4) (c := 3) rfl] at e2
      rw [e1, e2] at hbad
      cases hbad
theorem sp_X11_line_full (d : Nat) (t k : Nat) (ht : t < 3) (hk : k < 4) (hL : Lc = 40) : am_X xs LL (d + 2) 94 [.ref 14, .int (nI t), .int (nI k)] (hG σ sr ln Lc μ) (some (.int (-4))) (hG σ sr ln Lc μ) := by
  refine am_XR (d := d + 1) (C := cd_X11_line) (L := [some (.ref 14), some (.int (nI t)), some (.int (nI k)), none, none]) rfl rfl rfl rfl ?_
  refine am_g 3 3 [some (.ref 14), some (.int (nI t)), some (.int (nI k)), none, none] [.int 2, .int 0, .int (nI t)] (hG σ sr ln Lc μ) rfl ?_
  refine am_call (y := 122) (vs := [.int (nI t), .int 0, .int 2]) (rest := []) (v := (some (.int 1))) (h1 := (hG σ sr ln Lc μ)) rfl rfl rfl (sp_X11_isWithin_b d _ _ _ _ (am_wiN (a := 0) (b := 2) (v := t) (by omega) (by omega) (by omega))) ?_
  refine am_g 4 12 [some (.ref 14), some (.int (nI t)), some (.int (nI k)), none, none] [.int 3, .int 0, .int (nI k)] (hG σ sr ln Lc μ) rfl ?_
  refine am_call (y := 122) (vs := [.int (nI k), .int 0, .int 3]) (rest := []) (v := (some (.int 1))) (h1 := (hG σ sr ln Lc μ)) rfl rfl rfl (sp_X11_isWithin_b d _ _ _ _ (am_wiN (a := 0) (b := 3) (v := k) (by omega) (by omega) (by omega))) ?_
  refine am_g 4 (if (nI Lc) < 0 then 40 else 28) [some (.ref 14), some (.int (nI t)), some (.int (nI k)), none, none] [] (hG σ sr ln Lc μ) rfl ?_
  rw [if_neg (show ¬ (nI Lc) < 0 from (nI_pos (by omega)))]
  refine am_g 6 (if (nI Lc) < 40 then 43 else 40) [some (.ref 14), some (.int (nI t)), some (.int (nI k)), none, none] [] (hG σ sr ln Lc μ) rfl ?_
  rw [if_neg (show ¬ (nI Lc) < 40 from (am_dnlt (a := Lc) (b := 40) rfl rfl (by omega) (by omega) (by omega)))]
  refine am_g 1 42 [some (.ref 14), some (.int (nI t)), some (.int (nI k)), none, none] [.int (-4)] (hG σ sr ln Lc μ) rfl ?_
  exact am_ret2 rfl rfl rfl rfl rfl
theorem sp_X11_line_flt (d : Nat) {T : Nat} (hT : σ 8 0 = nI T) (hT20 : T ≤ 20) (hs : pu_sort (σ 7) T = -1) (t k : Nat) (ht : t < 3) (hk : k < 4) (hL : Lc < 40) : am_X xs LL (d + 7) 94 [.ref 14, .int (nI t), .int (nI k)] (hG σ sr ln Lc μ) (some (.int (-100 - nI (pu_flt (σ 7) T)))) (hG (am_us σ 8 0) sr ln Lc μ) := by
  refine am_XR (d := d + 6) (C := cd_X11_line) (L := [some (.ref 14), some (.int (nI t)), some (.int (nI k)), none, none]) rfl rfl rfl rfl ?_
  refine am_g 3 3 [some (.ref 14), some (.int (nI t)), some (.int (nI k)), none, none] [.int 2, .int 0, .int (nI t)] (hG σ sr ln Lc μ) rfl ?_
  refine am_call (y := 122) (vs := [.int (nI t), .int 0, .int 2]) (rest := []) (v := (some (.int 1))) (h1 := (hG σ sr ln Lc μ)) rfl rfl rfl (sp_X11_isWithin_b (d + 5) _ _ _ _ (am_wiN (a := 0) (b := 2) (v := t) (by omega) (by omega) (by omega))) ?_
  refine am_g 4 12 [some (.ref 14), some (.int (nI t)), some (.int (nI k)), none, none] [.int 3, .int 0, .int (nI k)] (hG σ sr ln Lc μ) rfl ?_
  refine am_call (y := 122) (vs := [.int (nI k), .int 0, .int 3]) (rest := []) (v := (some (.int 1))) (h1 := (hG σ sr ln Lc μ)) rfl rfl rfl (sp_X11_isWithin_b (d + 5) _ _ _ _ (am_wiN (a := 0) (b := 3) (v := k) (by omega) (by omega) (by omega))) ?_
  refine am_g 4 (if (nI Lc) < 0 then 40 else 28) [some (.ref 14), some (.int (nI t)), some (.int (nI k)), none, none] [] (hG σ sr ln Lc μ) rfl ?_
  rw [if_neg (show ¬ (nI Lc) < 0 from (nI_pos (by omega)))]
  refine am_g 6 (if (nI Lc) < 40 then 43 else 40) [some (.ref 14), some (.int (nI t)), some (.int (nI k)), none, none] [] (hG σ sr ln Lc μ) rfl ?_
  rw [if_pos (show (nI Lc) < 40 from (am_dlt (a := Lc) (b := 40) rfl rfl (by omega) (by omega) (by omega)))]
  refine am_g 2 47 [some (.ref 14), some (.int (nI t)), some (.int (nI k)), none, none] [.ref 20] (hG σ sr ln Lc μ) rfl ?_
  refine am_call (y := 77) (vs := [.ref 20]) (rest := []) (v := (some (.int (-1)))) (h1 := (hG σ sr ln Lc μ)) rfl rfl rfl ((by have q := sp_X9_sortTold (σ := σ) (μ := μ) (sr := sr) (ln := ln) (Lc := Lc) (xs := xs) (LL := LL) d hT hT20; rw [hs] at q; exact q)) ?_
  refine am_g 6 60 [some (.ref 14), some (.int (nI t)), some (.int (nI k)), some (.int (-1)), none] [.ref 20] (hG σ sr ln Lc μ) rfl ?_
  refine am_call (y := 78) (vs := [.ref 20]) (rest := []) (v := (some (.int (nI (pu_flt (σ 7) T))))) (h1 := (hG σ sr ln Lc μ)) rfl rfl rfl (sp_X9_faultPlace (σ := σ) (μ := μ) d hT hT20) ?_
  refine am_g 3 69 [some (.ref 14), some (.int (nI t)), some (.int (nI k)), some (.int (-1)), some (.int (nI (pu_flt (σ 7) T)))] [.ref 20] (hG σ sr ln Lc μ) rfl ?_
  refine am_call (y := 72) (vs := [.ref 20]) (rest := []) (v := none) (h1 := (hG (am_us σ 8 0) sr ln Lc μ)) rfl rfl rfl (sp_X9_clear (σ := σ) (μ := μ) (d + 5)) ?_
  refine am_g 3 77 [some (.ref 14), some (.int (nI t)), some (.int (nI k)), some (.int (-1)), some (.int (nI (pu_flt (σ 7) T)))] [.int ((-100) - (nI (pu_flt (σ 7) T)))] (hG (am_us σ 8 0) sr ln Lc μ) rfl ?_
  exact am_ret2 rfl rfl rfl rfl rfl
theorem sp_X11_line_room (d : Nat) {T : Nat} (hT : σ 8 0 = nI T) (hT20 : T ≤ 20) (hs : pu_sort (σ 7) T = 5) (t k : Nat) (ht : t < 3) (hk : k < 4) (hL : Lc < 40) {O : Nat} (hO : σ 6 0 = nI O) (hO16 : O = 16) : am_X xs LL (d + 7) 94 [.ref 14, .int (nI t), .int (nI k)] (hG σ sr ln Lc μ) (some (.int (-4))) (hG σ sr ln Lc μ) := by
  refine am_XR (d := d + 6) (C := cd_X11_line) (L := [some (.ref 14), some (.int (nI t)), some (.int (nI k)), none, none]) rfl rfl rfl rfl ?_
  refine am_g 3 3 [some (.ref 14), some (.int (nI t)), some (.int (nI k)), none, none] [.int 2, .int 0, .int (nI t)] (hG σ sr ln Lc μ) rfl ?_
  refine am_call (y := 122) (vs := [.int (nI t), .int 0, .int 2]) (rest := []) (v := (some (.int 1))) (h1 := (hG σ sr ln Lc μ)) rfl rfl rfl (sp_X11_isWithin_b (d + 5) _ _ _ _ (am_wiN (a := 0) (b := 2) (v := t) (by omega) (by omega) (by omega))) ?_
  refine am_g 4 12 [some (.ref 14), some (.int (nI t)), some (.int (nI k)), none, none] [.int 3, .int 0, .int (nI k)] (hG σ sr ln Lc μ) rfl ?_
  refine am_call (y := 122) (vs := [.int (nI k), .int 0, .int 3]) (rest := []) (v := (some (.int 1))) (h1 := (hG σ sr ln Lc μ)) rfl rfl rfl (sp_X11_isWithin_b (d + 5) _ _ _ _ (am_wiN (a := 0) (b := 3) (v := k) (by omega) (by omega) (by omega))) ?_
  refine am_g 4 (if (nI Lc) < 0 then 40 else 28) [some (.ref 14), some (.int (nI t)), some (.int (nI k)), none, none] [] (hG σ sr ln Lc μ) rfl ?_
  rw [if_neg (show ¬ (nI Lc) < 0 from (nI_pos (by omega)))]
  refine am_g 6 (if (nI Lc) < 40 then 43 else 40) [some (.ref 14), some (.int (nI t)), some (.int (nI k)), none, none] [] (hG σ sr ln Lc μ) rfl ?_
  rw [if_pos (show (nI Lc) < 40 from (am_dlt (a := Lc) (b := 40) rfl rfl (by omega) (by omega) (by omega)))]
  refine am_g 2 47 [some (.ref 14), some (.int (nI t)), some (.int (nI k)), none, none] [.ref 20] (hG σ sr ln Lc μ) rfl ?_
  refine am_call (y := 77) (vs := [.ref 20]) (rest := []) (v := (some (.int 5))) (h1 := (hG σ sr ln Lc μ)) rfl rfl rfl ((by have q := sp_X9_sortTold (σ := σ) (μ := μ) (sr := sr) (ln := ln) (Lc := Lc) (xs := xs) (LL := LL) d hT hT20; rw [hs] at q; exact q)) ?_
  refine am_g 9 87 [some (.ref 14), some (.int (nI t)), some (.int (nI k)), some (.int 5), none] [.ref 15] (hG σ sr ln Lc μ) rfl ?_
  refine am_call (y := 29) (vs := [.ref 15]) (rest := []) (v := (some (.int 0))) (h1 := (hG σ sr ln Lc μ)) rfl rfl rfl (sp_X3_hasRoomForObject_n (σ := σ) (μ := μ) (d + 5) hO hO16) ?_
  refine am_g 2 95 [some (.ref 14), some (.int (nI t)), some (.int (nI k)), some (.int 5), none] [.int (-4)] (hG σ sr ln Lc μ) rfl ?_
  exact am_ret2 rfl rfl rfl rfl rfl
theorem sp_X11_line_ok0 (d : Nat) {T : Nat} (hT : σ 8 0 = nI T) (hT20 : T ≤ 20) (hs : pu_sort (σ 7) T = 0) (hlen : 3 = T) (t k : Nat) (ht : t < 3) (hk : k < 4) (hL : Lc < 40) : am_X xs LL (d + 7) 94 [.ref 14, .int (nI t), .int (nI k)] (hG σ sr ln Lc μ) (some (.int (nI Lc))) (hG (am_us (am_us (am_us σ 8 0) 10 0) 20 0) (pu_srn sr Lc 0) (am_up ln Lc (pu_row [((σ 7 0) - 97), ((σ 7 2) - 97), (-1), nI t, nI k, -1, 1])) (Lc + 1) μ) := by
  refine am_XR (d := d + 6) (C := cd_X11_line) (L := [some (.ref 14), some (.int (nI t)), some (.int (nI k)), none, none]) rfl rfl rfl rfl ?_
  have hcs : ((List.range Lc).map (hLn sr ln)).length = Lc := by rw [List.length_map, List.length_range]
  refine am_g 3 3 [some (.ref 14), some (.int (nI t)), some (.int (nI k)), none, none] [.int 2, .int 0, .int (nI t)] (hG σ sr ln Lc μ) rfl ?_
  refine am_call (y := 122) (vs := [.int (nI t), .int 0, .int 2]) (rest := []) (v := (some (.int 1))) (h1 := (hG σ sr ln Lc μ)) rfl rfl rfl (sp_X11_isWithin_b (d + 5) _ _ _ _ (am_wiN (a := 0) (b := 2) (v := t) (by omega) (by omega) (by omega))) ?_
  refine am_g 4 12 [some (.ref 14), some (.int (nI t)), some (.int (nI k)), none, none] [.int 3, .int 0, .int (nI k)] (hG σ sr ln Lc μ) rfl ?_
  refine am_call (y := 122) (vs := [.int (nI k), .int 0, .int 3]) (rest := []) (v := (some (.int 1))) (h1 := (hG σ sr ln Lc μ)) rfl rfl rfl (sp_X11_isWithin_b (d + 5) _ _ _ _ (am_wiN (a := 0) (b := 3) (v := k) (by omega) (by omega) (by omega))) ?_
  refine am_g 4 (if (nI Lc) < 0 then 40 else 28) [some (.ref 14), some (.int (nI t)), some (.int (nI k)), none, none] [] (hG σ sr ln Lc μ) rfl ?_
  rw [if_neg (show ¬ (nI Lc) < 0 from (nI_pos (by omega)))]
  refine am_g 6 (if (nI Lc) < 40 then 43 else 40) [some (.ref 14), some (.int (nI t)), some (.int (nI k)), none, none] [] (hG σ sr ln Lc μ) rfl ?_
  rw [if_pos (show (nI Lc) < 40 from (am_dlt (a := Lc) (b := 40) rfl rfl (by omega) (by omega) (by omega)))]
  refine am_g 2 47 [some (.ref 14), some (.int (nI t)), some (.int (nI k)), none, none] [.ref 20] (hG σ sr ln Lc μ) rfl ?_
  refine am_call (y := 77) (vs := [.ref 20]) (rest := []) (v := (some (.int 0))) (h1 := (hG σ sr ln Lc μ)) rfl rfl rfl ((by have q := sp_X9_sortTold (σ := σ) (μ := μ) (sr := sr) (ln := ln) (Lc := Lc) (xs := xs) (LL := LL) d hT hT20; rw [hs] at q; exact q)) ?_
  refine am_g 9 98 [some (.ref 14), some (.int (nI t)), some (.int (nI k)), some (.int 0), none] [.int 0, .ref 14] (hG σ sr ln Lc μ) rfl ?_
  refine am_call (y := 130) (vs := [.ref 14, .int 0]) (rest := []) (v := (some (.ref (75 + Lc)))) (h1 := (hXC σ Lc μ (((List.range Lc).map (hLn sr ln)) ++ [.inr (2, [.int ((σ 7 0) - 97), .int ((σ 7 2) - 97), .int (-1), .int 0, .int 0, .int (-1), .int 1])]))) rfl rfl rfl (sp_X11_lineOfTape_0 (σ := σ) (μ := μ) d hT hT20 hlen) ?_
  refine am_g 1 103 [some (.ref 14), some (.int (nI t)), some (.int (nI k)), some (.int 0), some (.ref (75 + Lc))] [] (hXC σ Lc μ (((List.range Lc).map (hLn sr ln)) ++ [.inr (2, [.int ((σ 7 0) - 97), .int ((σ 7 2) - 97), .int (-1), .int 0, .int 0, .int (-1), .int 1])])) rfl ?_
  refine am_g 2 106 [some (.ref 14), some (.int (nI t)), some (.int (nI k)), some (.int 0), some (.ref (75 + Lc))] [.int (nI t), .ref (75 + Lc)] (hXC σ Lc μ (((List.range Lc).map (hLn sr ln)) ++ [.inr (2, [.int ((σ 7 0) - 97), .int ((σ 7 2) - 97), .int (-1), .int 0, .int 0, .int (-1), .int 1])])) rfl ?_
  refine am_nputR hcs rfl rfl rfl rfl ?_
  refine am_g 2 112 [some (.ref 14), some (.int (nI t)), some (.int (nI k)), some (.int 0), some (.ref (75 + Lc))] [.int (nI k), .ref (75 + Lc)] (hXC σ Lc μ (((List.range Lc).map (hLn sr ln)) ++ [.inr (2, [.int ((σ 7 0) - 97), .int ((σ 7 2) - 97), .int (-1), .int (nI t), .int 0, .int (-1), .int 1])])) rfl ?_
  refine am_nputR hcs rfl rfl rfl rfl ?_
  refine am_g 5 125 [some (.ref 14), some (.int (nI t)), some (.int (nI k)), some (.int 0), some (.ref (75 + Lc))] [.ref (75 + Lc), .int (nI Lc), .ref 22] (hXC σ Lc μ (((List.range Lc).map (hLn sr ln)) ++ [.inr (2, [.int ((σ 7 0) - 97), .int ((σ 7 2) - 97), .int (-1), .int (nI t), .int (nI k), .int (-1), .int 1])])) rfl ?_
  refine am_naastR hcs rfl rfl hL ?_
  refine am_g 2 130 [some (.ref 14), some (.int (nI t)), some (.int (nI k)), some (.int 0), some (.ref (75 + Lc))] [.ref 20] (hXY σ (nI Lc) (va_up (pu_arr Lc) Lc (some (75 + Lc))) μ (((List.range Lc).map (hLn sr ln)) ++ [.inr (2, [.int ((σ 7 0) - 97), .int ((σ 7 2) - 97), .int (-1), .int (nI t), .int (nI k), .int (-1), .int 1])])) rfl ?_
  refine am_call (y := 72) (vs := [.ref 20]) (rest := []) (v := none) (h1 := (hXY (am_us σ 8 0) (nI Lc) (va_up (pu_arr Lc) Lc (some (75 + Lc))) μ (((List.range Lc).map (hLn sr ln)) ++ [.inr (2, [.int ((σ 7 0) - 97), .int ((σ 7 2) - 97), .int (-1), .int (nI t), .int (nI k), .int (-1), .int 1])]))) rfl rfl rfl (sp_X9_clear_y (d + 5)) ?_
  refine am_g 1 134 [some (.ref 14), some (.int (nI t)), some (.int (nI k)), some (.int 0), some (.ref (75 + Lc))] [.ref 14] (hXY (am_us σ 8 0) (nI Lc) (va_up (pu_arr Lc) Lc (some (75 + Lc))) μ (((List.range Lc).map (hLn sr ln)) ++ [.inr (2, [.int ((σ 7 0) - 97), .int ((σ 7 2) - 97), .int (-1), .int (nI t), .int (nI k), .int (-1), .int 1])])) rfl ?_
  refine am_call (y := 131) (vs := [.ref 14]) (rest := []) (v := none) (h1 := (hXY (am_us (am_us (am_us σ 8 0) 10 0) 20 0) (nI Lc) (va_up (pu_arr Lc) Lc (some (75 + Lc))) μ (((List.range Lc).map (hLn sr ln)) ++ [.inr (2, [.int ((σ 7 0) - 97), .int ((σ 7 2) - 97), .int (-1), .int (nI t), .int (nI k), .int (-1), .int 1])]))) rfl rfl rfl (sp_X11_forgetSets_y (d + 5)) ?_
  refine am_g 7 148 [some (.ref 14), some (.int (nI t)), some (.int (nI k)), some (.int 0), some (.ref (75 + Lc))] [.int (nI Lc)] (hXY (am_us (am_us (am_us σ 8 0) 10 0) 20 0) (nI Lc + 1) (va_up (pu_arr Lc) Lc (some (75 + Lc))) μ (((List.range Lc).map (hLn sr ln)) ++ [.inr (2, [.int ((σ 7 0) - 97), .int ((σ 7 2) - 97), .int (-1), .int (nI t), .int (nI k), .int (-1), .int 1])])) rfl ?_
  exact am_ret2 rfl rfl rfl rfl (hXY_hG rfl)
theorem sp_X11_line_ok1 (d : Nat) {T : Nat} (hT : σ 8 0 = nI T) (hT20 : T ≤ 20) (hs : pu_sort (σ 7) T = 1) (hlen : 5 = T) (t k : Nat) (ht : t < 3) (hk : k < 4) (hL : Lc < 40) : am_X xs LL (d + 7) 94 [.ref 14, .int (nI t), .int (nI k)] (hG σ sr ln Lc μ) (some (.int (nI Lc))) (hG (am_us (am_us (am_us σ 8 0) 10 0) 20 0) (pu_srn sr Lc 1) (am_up ln Lc (pu_row [((σ 7 0) - 97), ((σ 7 2) - 97), ((σ 7 4) - 48), nI t, nI k, -1, 1])) (Lc + 1) μ) := by
  refine am_XR (d := d + 6) (C := cd_X11_line) (L := [some (.ref 14), some (.int (nI t)), some (.int (nI k)), none, none]) rfl rfl rfl rfl ?_
  have hcs : ((List.range Lc).map (hLn sr ln)).length = Lc := by rw [List.length_map, List.length_range]
  refine am_g 3 3 [some (.ref 14), some (.int (nI t)), some (.int (nI k)), none, none] [.int 2, .int 0, .int (nI t)] (hG σ sr ln Lc μ) rfl ?_
  refine am_call (y := 122) (vs := [.int (nI t), .int 0, .int 2]) (rest := []) (v := (some (.int 1))) (h1 := (hG σ sr ln Lc μ)) rfl rfl rfl (sp_X11_isWithin_b (d + 5) _ _ _ _ (am_wiN (a := 0) (b := 2) (v := t) (by omega) (by omega) (by omega))) ?_
  refine am_g 4 12 [some (.ref 14), some (.int (nI t)), some (.int (nI k)), none, none] [.int 3, .int 0, .int (nI k)] (hG σ sr ln Lc μ) rfl ?_
  refine am_call (y := 122) (vs := [.int (nI k), .int 0, .int 3]) (rest := []) (v := (some (.int 1))) (h1 := (hG σ sr ln Lc μ)) rfl rfl rfl (sp_X11_isWithin_b (d + 5) _ _ _ _ (am_wiN (a := 0) (b := 3) (v := k) (by omega) (by omega) (by omega))) ?_
  refine am_g 4 (if (nI Lc) < 0 then 40 else 28) [some (.ref 14), some (.int (nI t)), some (.int (nI k)), none, none] [] (hG σ sr ln Lc μ) rfl ?_
  rw [if_neg (show ¬ (nI Lc) < 0 from (nI_pos (by omega)))]
  refine am_g 6 (if (nI Lc) < 40 then 43 else 40) [some (.ref 14), some (.int (nI t)), some (.int (nI k)), none, none] [] (hG σ sr ln Lc μ) rfl ?_
  rw [if_pos (show (nI Lc) < 40 from (am_dlt (a := Lc) (b := 40) rfl rfl (by omega) (by omega) (by omega)))]
  refine am_g 2 47 [some (.ref 14), some (.int (nI t)), some (.int (nI k)), none, none] [.ref 20] (hG σ sr ln Lc μ) rfl ?_
  refine am_call (y := 77) (vs := [.ref 20]) (rest := []) (v := (some (.int 1))) (h1 := (hG σ sr ln Lc μ)) rfl rfl rfl ((by have q := sp_X9_sortTold (σ := σ) (μ := μ) (sr := sr) (ln := ln) (Lc := Lc) (xs := xs) (LL := LL) d hT hT20; rw [hs] at q; exact q)) ?_
  refine am_g 9 98 [some (.ref 14), some (.int (nI t)), some (.int (nI k)), some (.int 1), none] [.int 1, .ref 14] (hG σ sr ln Lc μ) rfl ?_
  refine am_call (y := 130) (vs := [.ref 14, .int 1]) (rest := []) (v := (some (.ref (75 + Lc)))) (h1 := (hXC σ Lc μ (((List.range Lc).map (hLn sr ln)) ++ [.inr (1, [.int ((σ 7 0) - 97), .int ((σ 7 2) - 97), .int ((σ 7 4) - 48), .int 0, .int 0, .int (-1), .int 1])]))) rfl rfl rfl (sp_X11_lineOfTape_1 (σ := σ) (μ := μ) d hT hT20 hlen) ?_
  refine am_g 1 103 [some (.ref 14), some (.int (nI t)), some (.int (nI k)), some (.int 1), some (.ref (75 + Lc))] [] (hXC σ Lc μ (((List.range Lc).map (hLn sr ln)) ++ [.inr (1, [.int ((σ 7 0) - 97), .int ((σ 7 2) - 97), .int ((σ 7 4) - 48), .int 0, .int 0, .int (-1), .int 1])])) rfl ?_
  refine am_g 2 106 [some (.ref 14), some (.int (nI t)), some (.int (nI k)), some (.int 1), some (.ref (75 + Lc))] [.int (nI t), .ref (75 + Lc)] (hXC σ Lc μ (((List.range Lc).map (hLn sr ln)) ++ [.inr (1, [.int ((σ 7 0) - 97), .int ((σ 7 2) - 97), .int ((σ 7 4) - 48), .int 0, .int 0, .int (-1), .int 1])])) rfl ?_
  refine am_nputR hcs rfl rfl rfl rfl ?_
  refine am_g 2 112 [some (.ref 14), some (.int (nI t)), some (.int (nI k)), some (.int 1), some (.ref (75 + Lc))] [.int (nI k), .ref (75 + Lc)] (hXC σ Lc μ (((List.range Lc).map (hLn sr ln)) ++ [.inr (1, [.int ((σ 7 0) - 97), .int ((σ 7 2) - 97), .int ((σ 7 4) - 48), .int (nI t), .int 0, .int (-1), .int 1])])) rfl ?_
  refine am_nputR hcs rfl rfl rfl rfl ?_
  refine am_g 5 125 [some (.ref 14), some (.int (nI t)), some (.int (nI k)), some (.int 1), some (.ref (75 + Lc))] [.ref (75 + Lc), .int (nI Lc), .ref 22] (hXC σ Lc μ (((List.range Lc).map (hLn sr ln)) ++ [.inr (1, [.int ((σ 7 0) - 97), .int ((σ 7 2) - 97), .int ((σ 7 4) - 48), .int (nI t), .int (nI k), .int (-1), .int 1])])) rfl ?_
  refine am_naastR hcs rfl rfl hL ?_
  refine am_g 2 130 [some (.ref 14), some (.int (nI t)), some (.int (nI k)), some (.int 1), some (.ref (75 + Lc))] [.ref 20] (hXY σ (nI Lc) (va_up (pu_arr Lc) Lc (some (75 + Lc))) μ (((List.range Lc).map (hLn sr ln)) ++ [.inr (1, [.int ((σ 7 0) - 97), .int ((σ 7 2) - 97), .int ((σ 7 4) - 48), .int (nI t), .int (nI k), .int (-1), .int 1])])) rfl ?_
  refine am_call (y := 72) (vs := [.ref 20]) (rest := []) (v := none) (h1 := (hXY (am_us σ 8 0) (nI Lc) (va_up (pu_arr Lc) Lc (some (75 + Lc))) μ (((List.range Lc).map (hLn sr ln)) ++ [.inr (1, [.int ((σ 7 0) - 97), .int ((σ 7 2) - 97), .int ((σ 7 4) - 48), .int (nI t), .int (nI k), .int (-1), .int 1])]))) rfl rfl rfl (sp_X9_clear_y (d + 5)) ?_
  refine am_g 1 134 [some (.ref 14), some (.int (nI t)), some (.int (nI k)), some (.int 1), some (.ref (75 + Lc))] [.ref 14] (hXY (am_us σ 8 0) (nI Lc) (va_up (pu_arr Lc) Lc (some (75 + Lc))) μ (((List.range Lc).map (hLn sr ln)) ++ [.inr (1, [.int ((σ 7 0) - 97), .int ((σ 7 2) - 97), .int ((σ 7 4) - 48), .int (nI t), .int (nI k), .int (-1), .int 1])])) rfl ?_
  refine am_call (y := 131) (vs := [.ref 14]) (rest := []) (v := none) (h1 := (hXY (am_us (am_us (am_us σ 8 0) 10 0) 20 0) (nI Lc) (va_up (pu_arr Lc) Lc (some (75 + Lc))) μ (((List.range Lc).map (hLn sr ln)) ++ [.inr (1, [.int ((σ 7 0) - 97), .int ((σ 7 2) - 97), .int ((σ 7 4) - 48), .int (nI t), .int (nI k), .int (-1), .int 1])]))) rfl rfl rfl (sp_X11_forgetSets_y (d + 5)) ?_
  refine am_g 7 148 [some (.ref 14), some (.int (nI t)), some (.int (nI k)), some (.int 1), some (.ref (75 + Lc))] [.int (nI Lc)] (hXY (am_us (am_us (am_us σ 8 0) 10 0) 20 0) (nI Lc + 1) (va_up (pu_arr Lc) Lc (some (75 + Lc))) μ (((List.range Lc).map (hLn sr ln)) ++ [.inr (1, [.int ((σ 7 0) - 97), .int ((σ 7 2) - 97), .int ((σ 7 4) - 48), .int (nI t), .int (nI k), .int (-1), .int 1])])) rfl ?_
  exact am_ret2 rfl rfl rfl rfl (hXY_hG rfl)
theorem sp_X11_line_ok2 (d : Nat) {T : Nat} (hT : σ 8 0 = nI T) (hT20 : T ≤ 20) (hs : pu_sort (σ 7) T = 2) (hlen : 5 = T) (t k : Nat) (ht : t < 3) (hk : k < 4) (hL : Lc < 40) : am_X xs LL (d + 7) 94 [.ref 14, .int (nI t), .int (nI k)] (hG σ sr ln Lc μ) (some (.int (nI Lc))) (hG (am_us (am_us (am_us σ 8 0) 10 0) 20 0) (pu_srn sr Lc 2) (am_up ln Lc (pu_row [((σ 7 0) - 97), ((σ 7 2) - 97), ((σ 7 4) - 48), nI t, nI k, -1, 1])) (Lc + 1) μ) := by
  refine am_XR (d := d + 6) (C := cd_X11_line) (L := [some (.ref 14), some (.int (nI t)), some (.int (nI k)), none, none]) rfl rfl rfl rfl ?_
  have hcs : ((List.range Lc).map (hLn sr ln)).length = Lc := by rw [List.length_map, List.length_range]
  refine am_g 3 3 [some (.ref 14), some (.int (nI t)), some (.int (nI k)), none, none] [.int 2, .int 0, .int (nI t)] (hG σ sr ln Lc μ) rfl ?_
  refine am_call (y := 122) (vs := [.int (nI t), .int 0, .int 2]) (rest := []) (v := (some (.int 1))) (h1 := (hG σ sr ln Lc μ)) rfl rfl rfl (sp_X11_isWithin_b (d + 5) _ _ _ _ (am_wiN (a := 0) (b := 2) (v := t) (by omega) (by omega) (by omega))) ?_
  refine am_g 4 12 [some (.ref 14), some (.int (nI t)), some (.int (nI k)), none, none] [.int 3, .int 0, .int (nI k)] (hG σ sr ln Lc μ) rfl ?_
  refine am_call (y := 122) (vs := [.int (nI k), .int 0, .int 3]) (rest := []) (v := (some (.int 1))) (h1 := (hG σ sr ln Lc μ)) rfl rfl rfl (sp_X11_isWithin_b (d + 5) _ _ _ _ (am_wiN (a := 0) (b := 3) (v := k) (by omega) (by omega) (by omega))) ?_
  refine am_g 4 (if (nI Lc) < 0 then 40 else 28) [some (.ref 14), some (.int (nI t)), some (.int (nI k)), none, none] [] (hG σ sr ln Lc μ) rfl ?_
  rw [if_neg (show ¬ (nI Lc) < 0 from (nI_pos (by omega)))]
  refine am_g 6 (if (nI Lc) < 40 then 43 else 40) [some (.ref 14), some (.int (nI t)), some (.int (nI k)), none, none] [] (hG σ sr ln Lc μ) rfl ?_
  rw [if_pos (show (nI Lc) < 40 from (am_dlt (a := Lc) (b := 40) rfl rfl (by omega) (by omega) (by omega)))]
  refine am_g 2 47 [some (.ref 14), some (.int (nI t)), some (.int (nI k)), none, none] [.ref 20] (hG σ sr ln Lc μ) rfl ?_
  refine am_call (y := 77) (vs := [.ref 20]) (rest := []) (v := (some (.int 2))) (h1 := (hG σ sr ln Lc μ)) rfl rfl rfl ((by have q := sp_X9_sortTold (σ := σ) (μ := μ) (sr := sr) (ln := ln) (Lc := Lc) (xs := xs) (LL := LL) d hT hT20; rw [hs] at q; exact q)) ?_
  refine am_g 9 98 [some (.ref 14), some (.int (nI t)), some (.int (nI k)), some (.int 2), none] [.int 2, .ref 14] (hG σ sr ln Lc μ) rfl ?_
  refine am_call (y := 130) (vs := [.ref 14, .int 2]) (rest := []) (v := (some (.ref (75 + Lc)))) (h1 := (hXC σ Lc μ (((List.range Lc).map (hLn sr ln)) ++ [.inr (6, [.int ((σ 7 0) - 97), .int ((σ 7 2) - 97), .int ((σ 7 4) - 48), .int 0, .int 0, .int (-1), .int 1])]))) rfl rfl rfl (sp_X11_lineOfTape_2 (σ := σ) (μ := μ) d hT hT20 hlen) ?_
  refine am_g 1 103 [some (.ref 14), some (.int (nI t)), some (.int (nI k)), some (.int 2), some (.ref (75 + Lc))] [] (hXC σ Lc μ (((List.range Lc).map (hLn sr ln)) ++ [.inr (6, [.int ((σ 7 0) - 97), .int ((σ 7 2) - 97), .int ((σ 7 4) - 48), .int 0, .int 0, .int (-1), .int 1])])) rfl ?_
  refine am_g 2 106 [some (.ref 14), some (.int (nI t)), some (.int (nI k)), some (.int 2), some (.ref (75 + Lc))] [.int (nI t), .ref (75 + Lc)] (hXC σ Lc μ (((List.range Lc).map (hLn sr ln)) ++ [.inr (6, [.int ((σ 7 0) - 97), .int ((σ 7 2) - 97), .int ((σ 7 4) - 48), .int 0, .int 0, .int (-1), .int 1])])) rfl ?_
  refine am_nputR hcs rfl rfl rfl rfl ?_
  refine am_g 2 112 [some (.ref 14), some (.int (nI t)), some (.int (nI k)), some (.int 2), some (.ref (75 + Lc))] [.int (nI k), .ref (75 + Lc)] (hXC σ Lc μ (((List.range Lc).map (hLn sr ln)) ++ [.inr (6, [.int ((σ 7 0) - 97), .int ((σ 7 2) - 97), .int ((σ 7 4) - 48), .int (nI t), .int 0, .int (-1), .int 1])])) rfl ?_
  refine am_nputR hcs rfl rfl rfl rfl ?_
  refine am_g 5 125 [some (.ref 14), some (.int (nI t)), some (.int (nI k)), some (.int 2), some (.ref (75 + Lc))] [.ref (75 + Lc), .int (nI Lc), .ref 22] (hXC σ Lc μ (((List.range Lc).map (hLn sr ln)) ++ [.inr (6, [.int ((σ 7 0) - 97), .int ((σ 7 2) - 97), .int ((σ 7 4) - 48), .int (nI t), .int (nI k), .int (-1), .int 1])])) rfl ?_
  refine am_naastR hcs rfl rfl hL ?_
  refine am_g 2 130 [some (.ref 14), some (.int (nI t)), some (.int (nI k)), some (.int 2), some (.ref (75 + Lc))] [.ref 20] (hXY σ (nI Lc) (va_up (pu_arr Lc) Lc (some (75 + Lc))) μ (((List.range Lc).map (hLn sr ln)) ++ [.inr (6, [.int ((σ 7 0) - 97), .int ((σ 7 2) - 97), .int ((σ 7 4) - 48), .int (nI t), .int (nI k), .int (-1), .int 1])])) rfl ?_
  refine am_call (y := 72) (vs := [.ref 20]) (rest := []) (v := none) (h1 := (hXY (am_us σ 8 0) (nI Lc) (va_up (pu_arr Lc) Lc (some (75 + Lc))) μ (((List.range Lc).map (hLn sr ln)) ++ [.inr (6, [.int ((σ 7 0) - 97), .int ((σ 7 2) - 97), .int ((σ 7 4) - 48), .int (nI t), .int (nI k), .int (-1), .int 1])]))) rfl rfl rfl (sp_X9_clear_y (d + 5)) ?_
  refine am_g 1 134 [some (.ref 14), some (.int (nI t)), some (.int (nI k)), some (.int 2), some (.ref (75 + Lc))] [.ref 14] (hXY (am_us σ 8 0) (nI Lc) (va_up (pu_arr Lc) Lc (some (75 + Lc))) μ (((List.range Lc).map (hLn sr ln)) ++ [.inr (6, [.int ((σ 7 0) - 97), .int ((σ 7 2) - 97), .int ((σ 7 4) - 48), .int (nI t), .int (nI k), .int (-1), .int 1])])) rfl ?_
  refine am_call (y := 131) (vs := [.ref 14]) (rest := []) (v := none) (h1 := (hXY (am_us (am_us (am_us σ 8 0) 10 0) 20 0) (nI Lc) (va_up (pu_arr Lc) Lc (some (75 + Lc))) μ (((List.range Lc).map (hLn sr ln)) ++ [.inr (6, [.int ((σ 7 0) - 97), .int ((σ 7 2) - 97), .int ((σ 7 4) - 48), .int (nI t), .int (nI k), .int (-1), .int 1])]))) rfl rfl rfl (sp_X11_forgetSets_y (d + 5)) ?_
  refine am_g 7 148 [some (.ref 14), some (.int (nI t)), some (.int (nI k)), some (.int 2), some (.ref (75 + Lc))] [.int (nI Lc)] (hXY (am_us (am_us (am_us σ 8 0) 10 0) 20 0) (nI Lc + 1) (va_up (pu_arr Lc) Lc (some (75 + Lc))) μ (((List.range Lc).map (hLn sr ln)) ++ [.inr (6, [.int ((σ 7 0) - 97), .int ((σ 7 2) - 97), .int ((σ 7 4) - 48), .int (nI t), .int (nI k), .int (-1), .int 1])])) rfl ?_
  exact am_ret2 rfl rfl rfl rfl (hXY_hG rfl)
theorem sp_X11_line_ok3 (d : Nat) {T : Nat} (hT : σ 8 0 = nI T) (hT20 : T ≤ 20) (hs : pu_sort (σ 7) T = 3) (hlen : 5 = T) (t k : Nat) (ht : t < 3) (hk : k < 4) (hL : Lc < 40) : am_X xs LL (d + 7) 94 [.ref 14, .int (nI t), .int (nI k)] (hG σ sr ln Lc μ) (some (.int (nI Lc))) (hG (am_us (am_us (am_us σ 8 0) 10 0) 20 0) (pu_srn sr Lc 3) (am_up ln Lc (pu_row [((σ 7 0) - 97), ((σ 7 4) - 97), ((σ 7 2) - 48), nI t, nI k, -1, 1])) (Lc + 1) μ) := by
  refine am_XR (d := d + 6) (C := cd_X11_line) (L := [some (.ref 14), some (.int (nI t)), some (.int (nI k)), none, none]) rfl rfl rfl rfl ?_
  have hcs : ((List.range Lc).map (hLn sr ln)).length = Lc := by rw [List.length_map, List.length_range]
  refine am_g 3 3 [some (.ref 14), some (.int (nI t)), some (.int (nI k)), none, none] [.int 2, .int 0, .int (nI t)] (hG σ sr ln Lc μ) rfl ?_
  refine am_call (y := 122) (vs := [.int (nI t), .int 0, .int 2]) (rest := []) (v := (some (.int 1))) (h1 := (hG σ sr ln Lc μ)) rfl rfl rfl (sp_X11_isWithin_b (d + 5) _ _ _ _ (am_wiN (a := 0) (b := 2) (v := t) (by omega) (by omega) (by omega))) ?_
  refine am_g 4 12 [some (.ref 14), some (.int (nI t)), some (.int (nI k)), none, none] [.int 3, .int 0, .int (nI k)] (hG σ sr ln Lc μ) rfl ?_
  refine am_call (y := 122) (vs := [.int (nI k), .int 0, .int 3]) (rest := []) (v := (some (.int 1))) (h1 := (hG σ sr ln Lc μ)) rfl rfl rfl (sp_X11_isWithin_b (d + 5) _ _ _ _ (am_wiN (a := 0) (b := 3) (v := k) (by omega) (by omega) (by omega))) ?_
  refine am_g 4 (if (nI Lc) < 0 then 40 else 28) [some (.ref 14), some (.int (nI t)), some (.int (nI k)), none, none] [] (hG σ sr ln Lc μ) rfl ?_
  rw [if_neg (show ¬ (nI Lc) < 0 from (nI_pos (by omega)))]
  refine am_g 6 (if (nI Lc) < 40 then 43 else 40) [some (.ref 14), some (.int (nI t)), some (.int (nI k)), none, none] [] (hG σ sr ln Lc μ) rfl ?_
  rw [if_pos (show (nI Lc) < 40 from (am_dlt (a := Lc) (b := 40) rfl rfl (by omega) (by omega) (by omega)))]
  refine am_g 2 47 [some (.ref 14), some (.int (nI t)), some (.int (nI k)), none, none] [.ref 20] (hG σ sr ln Lc μ) rfl ?_
  refine am_call (y := 77) (vs := [.ref 20]) (rest := []) (v := (some (.int 3))) (h1 := (hG σ sr ln Lc μ)) rfl rfl rfl ((by have q := sp_X9_sortTold (σ := σ) (μ := μ) (sr := sr) (ln := ln) (Lc := Lc) (xs := xs) (LL := LL) d hT hT20; rw [hs] at q; exact q)) ?_
  refine am_g 9 98 [some (.ref 14), some (.int (nI t)), some (.int (nI k)), some (.int 3), none] [.int 3, .ref 14] (hG σ sr ln Lc μ) rfl ?_
  refine am_call (y := 130) (vs := [.ref 14, .int 3]) (rest := []) (v := (some (.ref (75 + Lc)))) (h1 := (hXC σ Lc μ (((List.range Lc).map (hLn sr ln)) ++ [.inr (10, [.int ((σ 7 0) - 97), .int ((σ 7 4) - 97), .int ((σ 7 2) - 48), .int 0, .int 0, .int (-1), .int 1])]))) rfl rfl rfl (sp_X11_lineOfTape_3 (σ := σ) (μ := μ) d hT hT20 hlen) ?_
  refine am_g 1 103 [some (.ref 14), some (.int (nI t)), some (.int (nI k)), some (.int 3), some (.ref (75 + Lc))] [] (hXC σ Lc μ (((List.range Lc).map (hLn sr ln)) ++ [.inr (10, [.int ((σ 7 0) - 97), .int ((σ 7 4) - 97), .int ((σ 7 2) - 48), .int 0, .int 0, .int (-1), .int 1])])) rfl ?_
  refine am_g 2 106 [some (.ref 14), some (.int (nI t)), some (.int (nI k)), some (.int 3), some (.ref (75 + Lc))] [.int (nI t), .ref (75 + Lc)] (hXC σ Lc μ (((List.range Lc).map (hLn sr ln)) ++ [.inr (10, [.int ((σ 7 0) - 97), .int ((σ 7 4) - 97), .int ((σ 7 2) - 48), .int 0, .int 0, .int (-1), .int 1])])) rfl ?_
  refine am_nputR hcs rfl rfl rfl rfl ?_
  refine am_g 2 112 [some (.ref 14), some (.int (nI t)), some (.int (nI k)), some (.int 3), some (.ref (75 + Lc))] [.int (nI k), .ref (75 + Lc)] (hXC σ Lc μ (((List.range Lc).map (hLn sr ln)) ++ [.inr (10, [.int ((σ 7 0) - 97), .int ((σ 7 4) - 97), .int ((σ 7 2) - 48), .int (nI t), .int 0, .int (-1), .int 1])])) rfl ?_
  refine am_nputR hcs rfl rfl rfl rfl ?_
  refine am_g 5 125 [some (.ref 14), some (.int (nI t)), some (.int (nI k)), some (.int 3), some (.ref (75 + Lc))] [.ref (75 + Lc), .int (nI Lc), .ref 22] (hXC σ Lc μ (((List.range Lc).map (hLn sr ln)) ++ [.inr (10, [.int ((σ 7 0) - 97), .int ((σ 7 4) - 97), .int ((σ 7 2) - 48), .int (nI t), .int (nI k), .int (-1), .int 1])])) rfl ?_
  refine am_naastR hcs rfl rfl hL ?_
  refine am_g 2 130 [some (.ref 14), some (.int (nI t)), some (.int (nI k)), some (.int 3), some (.ref (75 + Lc))] [.ref 20] (hXY σ (nI Lc) (va_up (pu_arr Lc) Lc (some (75 + Lc))) μ (((List.range Lc).map (hLn sr ln)) ++ [.inr (10, [.int ((σ 7 0) - 97), .int ((σ 7 4) - 97), .int ((σ 7 2) - 48), .int (nI t), .int (nI k), .int (-1), .int 1])])) rfl ?_
  refine am_call (y := 72) (vs := [.ref 20]) (rest := []) (v := none) (h1 := (hXY (am_us σ 8 0) (nI Lc) (va_up (pu_arr Lc) Lc (some (75 + Lc))) μ (((List.range Lc).map (hLn sr ln)) ++ [.inr (10, [.int ((σ 7 0) - 97), .int ((σ 7 4) - 97), .int ((σ 7 2) - 48), .int (nI t), .int (nI k), .int (-1), .int 1])]))) rfl rfl rfl (sp_X9_clear_y (d + 5)) ?_
  refine am_g 1 134 [some (.ref 14), some (.int (nI t)), some (.int (nI k)), some (.int 3), some (.ref (75 + Lc))] [.ref 14] (hXY (am_us σ 8 0) (nI Lc) (va_up (pu_arr Lc) Lc (some (75 + Lc))) μ (((List.range Lc).map (hLn sr ln)) ++ [.inr (10, [.int ((σ 7 0) - 97), .int ((σ 7 4) - 97), .int ((σ 7 2) - 48), .int (nI t), .int (nI k), .int (-1), .int 1])])) rfl ?_
  refine am_call (y := 131) (vs := [.ref 14]) (rest := []) (v := none) (h1 := (hXY (am_us (am_us (am_us σ 8 0) 10 0) 20 0) (nI Lc) (va_up (pu_arr Lc) Lc (some (75 + Lc))) μ (((List.range Lc).map (hLn sr ln)) ++ [.inr (10, [.int ((σ 7 0) - 97), .int ((σ 7 4) - 97), .int ((σ 7 2) - 48), .int (nI t), .int (nI k), .int (-1), .int 1])]))) rfl rfl rfl (sp_X11_forgetSets_y (d + 5)) ?_
  refine am_g 7 148 [some (.ref 14), some (.int (nI t)), some (.int (nI k)), some (.int 3), some (.ref (75 + Lc))] [.int (nI Lc)] (hXY (am_us (am_us (am_us σ 8 0) 10 0) 20 0) (nI Lc + 1) (va_up (pu_arr Lc) Lc (some (75 + Lc))) μ (((List.range Lc).map (hLn sr ln)) ++ [.inr (10, [.int ((σ 7 0) - 97), .int ((σ 7 4) - 97), .int ((σ 7 2) - 48), .int (nI t), .int (nI k), .int (-1), .int 1])])) rfl ?_
  exact am_ret2 rfl rfl rfl rfl (hXY_hG rfl)
theorem sp_X11_line_ok4 (d : Nat) {T : Nat} (hT : σ 8 0 = nI T) (hT20 : T ≤ 20) (hs : pu_sort (σ 7) T = 4) (hlen : 8 = T) (t k : Nat) (ht : t < 3) (hk : k < 4) (hL : Lc < 40) : am_X xs LL (d + 7) 94 [.ref 14, .int (nI t), .int (nI k)] (hG σ sr ln Lc μ) (some (.int (nI Lc))) (hG (am_us (am_us (am_us σ 8 0) 10 0) 20 0) (pu_srn sr Lc 4) (am_up ln Lc (pu_row [((σ 7 0) - 97), ((σ 7 2) - 97), ((σ 7 4) - 48), nI t, nI k, -1, 1, ((σ 7 6) - 97)])) (Lc + 1) μ) := by
  refine am_XR (d := d + 6) (C := cd_X11_line) (L := [some (.ref 14), some (.int (nI t)), some (.int (nI k)), none, none]) rfl rfl rfl rfl ?_
  have hcs : ((List.range Lc).map (hLn sr ln)).length = Lc := by rw [List.length_map, List.length_range]
  refine am_g 3 3 [some (.ref 14), some (.int (nI t)), some (.int (nI k)), none, none] [.int 2, .int 0, .int (nI t)] (hG σ sr ln Lc μ) rfl ?_
  refine am_call (y := 122) (vs := [.int (nI t), .int 0, .int 2]) (rest := []) (v := (some (.int 1))) (h1 := (hG σ sr ln Lc μ)) rfl rfl rfl (sp_X11_isWithin_b (d + 5) _ _ _ _ (am_wiN (a := 0) (b := 2) (v := t) (by omega) (by omega) (by omega))) ?_
  refine am_g 4 12 [some (.ref 14), some (.int (nI t)), some (.int (nI k)), none, none] [.int 3, .int 0, .int (nI k)] (hG σ sr ln Lc μ) rfl ?_
  refine am_call (y := 122) (vs := [.int (nI k), .int 0, .int 3]) (rest := []) (v := (some (.int 1))) (h1 := (hG σ sr ln Lc μ)) rfl rfl rfl (sp_X11_isWithin_b (d + 5) _ _ _ _ (am_wiN (a := 0) (b := 3) (v := k) (by omega) (by omega) (by omega))) ?_
  refine am_g 4 (if (nI Lc) < 0 then 40 else 28) [some (.ref 14), some (.int (nI t)), some (.int (nI k)), none, none] [] (hG σ sr ln Lc μ) rfl ?_
  rw [if_neg (show ¬ (nI Lc) < 0 from (nI_pos (by omega)))]
  refine am_g 6 (if (nI Lc) < 40 then 43 else 40) [some (.ref 14), some (.int (nI t)), some (.int (nI k)), none, none] [] (hG σ sr ln Lc μ) rfl ?_
  rw [if_pos (show (nI Lc) < 40 from (am_dlt (a := Lc) (b := 40) rfl rfl (by omega) (by omega) (by omega)))]
  refine am_g 2 47 [some (.ref 14), some (.int (nI t)), some (.int (nI k)), none, none] [.ref 20] (hG σ sr ln Lc μ) rfl ?_
  refine am_call (y := 77) (vs := [.ref 20]) (rest := []) (v := (some (.int 4))) (h1 := (hG σ sr ln Lc μ)) rfl rfl rfl ((by have q := sp_X9_sortTold (σ := σ) (μ := μ) (sr := sr) (ln := ln) (Lc := Lc) (xs := xs) (LL := LL) d hT hT20; rw [hs] at q; exact q)) ?_
  refine am_g 9 98 [some (.ref 14), some (.int (nI t)), some (.int (nI k)), some (.int 4), none] [.int 4, .ref 14] (hG σ sr ln Lc μ) rfl ?_
  refine am_call (y := 130) (vs := [.ref 14, .int 4]) (rest := []) (v := (some (.ref (75 + Lc)))) (h1 := (hXC σ Lc μ (((List.range Lc).map (hLn sr ln)) ++ [.inr (0, [.int ((σ 7 0) - 97), .int ((σ 7 2) - 97), .int ((σ 7 4) - 48), .int 0, .int 0, .int (-1), .int 1, .int ((σ 7 6) - 97)])]))) rfl rfl rfl (sp_X11_lineOfTape_4 (σ := σ) (μ := μ) d hT hT20 hlen) ?_
  refine am_g 1 103 [some (.ref 14), some (.int (nI t)), some (.int (nI k)), some (.int 4), some (.ref (75 + Lc))] [] (hXC σ Lc μ (((List.range Lc).map (hLn sr ln)) ++ [.inr (0, [.int ((σ 7 0) - 97), .int ((σ 7 2) - 97), .int ((σ 7 4) - 48), .int 0, .int 0, .int (-1), .int 1, .int ((σ 7 6) - 97)])])) rfl ?_
  refine am_g 2 106 [some (.ref 14), some (.int (nI t)), some (.int (nI k)), some (.int 4), some (.ref (75 + Lc))] [.int (nI t), .ref (75 + Lc)] (hXC σ Lc μ (((List.range Lc).map (hLn sr ln)) ++ [.inr (0, [.int ((σ 7 0) - 97), .int ((σ 7 2) - 97), .int ((σ 7 4) - 48), .int 0, .int 0, .int (-1), .int 1, .int ((σ 7 6) - 97)])])) rfl ?_
  refine am_nputR hcs rfl rfl rfl rfl ?_
  refine am_g 2 112 [some (.ref 14), some (.int (nI t)), some (.int (nI k)), some (.int 4), some (.ref (75 + Lc))] [.int (nI k), .ref (75 + Lc)] (hXC σ Lc μ (((List.range Lc).map (hLn sr ln)) ++ [.inr (0, [.int ((σ 7 0) - 97), .int ((σ 7 2) - 97), .int ((σ 7 4) - 48), .int (nI t), .int 0, .int (-1), .int 1, .int ((σ 7 6) - 97)])])) rfl ?_
  refine am_nputR hcs rfl rfl rfl rfl ?_
  refine am_g 5 125 [some (.ref 14), some (.int (nI t)), some (.int (nI k)), some (.int 4), some (.ref (75 + Lc))] [.ref (75 + Lc), .int (nI Lc), .ref 22] (hXC σ Lc μ (((List.range Lc).map (hLn sr ln)) ++ [.inr (0, [.int ((σ 7 0) - 97), .int ((σ 7 2) - 97), .int ((σ 7 4) - 48), .int (nI t), .int (nI k), .int (-1), .int 1, .int ((σ 7 6) - 97)])])) rfl ?_
  refine am_naastR hcs rfl rfl hL ?_
  refine am_g 2 130 [some (.ref 14), some (.int (nI t)), some (.int (nI k)), some (.int 4), some (.ref (75 + Lc))] [.ref 20] (hXY σ (nI Lc) (va_up (pu_arr Lc) Lc (some (75 + Lc))) μ (((List.range Lc).map (hLn sr ln)) ++ [.inr (0, [.int ((σ 7 0) - 97), .int ((σ 7 2) - 97), .int ((σ 7 4) - 48), .int (nI t), .int (nI k), .int (-1), .int 1, .int ((σ 7 6) - 97)])])) rfl ?_
  refine am_call (y := 72) (vs := [.ref 20]) (rest := []) (v := none) (h1 := (hXY (am_us σ 8 0) (nI Lc) (va_up (pu_arr Lc) Lc (some (75 + Lc))) μ (((List.range Lc).map (hLn sr ln)) ++ [.inr (0, [.int ((σ 7 0) - 97), .int ((σ 7 2) - 97), .int ((σ 7 4) - 48), .int (nI t), .int (nI k), .int (-1), .int 1, .int ((σ 7 6) - 97)])]))) rfl rfl rfl (sp_X9_clear_y (d + 5)) ?_
  refine am_g 1 134 [some (.ref 14), some (.int (nI t)), some (.int (nI k)), some (.int 4), some (.ref (75 + Lc))] [.ref 14] (hXY (am_us σ 8 0) (nI Lc) (va_up (pu_arr Lc) Lc (some (75 + Lc))) μ (((List.range Lc).map (hLn sr ln)) ++ [.inr (0, [.int ((σ 7 0) - 97), .int ((σ 7 2) - 97), .int ((σ 7 4) - 48), .int (nI t), .int (nI k), .int (-1), .int 1, .int ((σ 7 6) - 97)])])) rfl ?_
  refine am_call (y := 131) (vs := [.ref 14]) (rest := []) (v := none) (h1 := (hXY (am_us (am_us (am_us σ 8 0) 10 0) 20 0) (nI Lc) (va_up (pu_arr Lc) Lc (some (75 + Lc))) μ (((List.range Lc).map (hLn sr ln)) ++ [.inr (0, [.int ((σ 7 0) - 97), .int ((σ 7 2) - 97), .int ((σ 7 4) - 48), .int (nI t), .int (nI k), .int (-1), .int 1, .int ((σ 7 6) - 97)])]))) rfl rfl rfl (sp_X11_forgetSets_y (d + 5)) ?_
  refine am_g 7 148 [some (.ref 14), some (.int (nI t)), some (.int (nI k)), some (.int 4), some (.ref (75 + Lc))] [.int (nI Lc)] (hXY (am_us (am_us (am_us σ 8 0) 10 0) 20 0) (nI Lc + 1) (va_up (pu_arr Lc) Lc (some (75 + Lc))) μ (((List.range Lc).map (hLn sr ln)) ++ [.inr (0, [.int ((σ 7 0) - 97), .int ((σ 7 2) - 97), .int ((σ 7 4) - 48), .int (nI t), .int (nI k), .int (-1), .int 1, .int ((σ 7 6) - 97)])])) rfl ?_
  exact am_ret2 rfl rfl rfl rfl (hXY_hG rfl)
theorem sp_X11_line_ok5 (d : Nat) {T : Nat} (hT : σ 8 0 = nI T) (hT20 : T ≤ 20) (hs : pu_sort (σ 7) T = 5) (hlen : 4 = T) (t k : Nat) (ht : t < 3) (hk : k < 4) (hL : Lc < 40) {O : Nat} (hO : σ 6 0 = nI O) (hO16 : O < 16) : am_X xs LL (d + 7) 94 [.ref 14, .int (nI t), .int (nI k)] (hG σ sr ln Lc μ) (some (.int (nI Lc))) (hG (am_us (am_us (am_us (am_us (am_up σ 4 (upd (σ 4) O ((σ 7 3) - 48))) 6 (nI (O + 1))) 8 0) 10 0) 20 0) (pu_srn sr Lc 5) (am_up ln Lc (pu_row [((σ 7 0) - 97), (-1), ((σ 7 3) - 48), nI t, nI k, -1, 1, (nI O)])) (Lc + 1) μ) := by
  refine am_XR (d := d + 6) (C := cd_X11_line) (L := [some (.ref 14), some (.int (nI t)), some (.int (nI k)), none, none]) rfl rfl rfl rfl ?_
  have hcs : ((List.range Lc).map (hLn sr ln)).length = Lc := by rw [List.length_map, List.length_range]
  refine am_g 3 3 [some (.ref 14), some (.int (nI t)), some (.int (nI k)), none, none] [.int 2, .int 0, .int (nI t)] (hG σ sr ln Lc μ) rfl ?_
  refine am_call (y := 122) (vs := [.int (nI t), .int 0, .int 2]) (rest := []) (v := (some (.int 1))) (h1 := (hG σ sr ln Lc μ)) rfl rfl rfl (sp_X11_isWithin_b (d + 5) _ _ _ _ (am_wiN (a := 0) (b := 2) (v := t) (by omega) (by omega) (by omega))) ?_
  refine am_g 4 12 [some (.ref 14), some (.int (nI t)), some (.int (nI k)), none, none] [.int 3, .int 0, .int (nI k)] (hG σ sr ln Lc μ) rfl ?_
  refine am_call (y := 122) (vs := [.int (nI k), .int 0, .int 3]) (rest := []) (v := (some (.int 1))) (h1 := (hG σ sr ln Lc μ)) rfl rfl rfl (sp_X11_isWithin_b (d + 5) _ _ _ _ (am_wiN (a := 0) (b := 3) (v := k) (by omega) (by omega) (by omega))) ?_
  refine am_g 4 (if (nI Lc) < 0 then 40 else 28) [some (.ref 14), some (.int (nI t)), some (.int (nI k)), none, none] [] (hG σ sr ln Lc μ) rfl ?_
  rw [if_neg (show ¬ (nI Lc) < 0 from (nI_pos (by omega)))]
  refine am_g 6 (if (nI Lc) < 40 then 43 else 40) [some (.ref 14), some (.int (nI t)), some (.int (nI k)), none, none] [] (hG σ sr ln Lc μ) rfl ?_
  rw [if_pos (show (nI Lc) < 40 from (am_dlt (a := Lc) (b := 40) rfl rfl (by omega) (by omega) (by omega)))]
  refine am_g 2 47 [some (.ref 14), some (.int (nI t)), some (.int (nI k)), none, none] [.ref 20] (hG σ sr ln Lc μ) rfl ?_
  refine am_call (y := 77) (vs := [.ref 20]) (rest := []) (v := (some (.int 5))) (h1 := (hG σ sr ln Lc μ)) rfl rfl rfl ((by have q := sp_X9_sortTold (σ := σ) (μ := μ) (sr := sr) (ln := ln) (Lc := Lc) (xs := xs) (LL := LL) d hT hT20; rw [hs] at q; exact q)) ?_
  refine am_g 9 87 [some (.ref 14), some (.int (nI t)), some (.int (nI k)), some (.int 5), none] [.ref 15] (hG σ sr ln Lc μ) rfl ?_
  refine am_call (y := 29) (vs := [.ref 15]) (rest := []) (v := (some (.int 1))) (h1 := (hG σ sr ln Lc μ)) rfl rfl rfl (sp_X3_hasRoomForObject_y (σ := σ) (μ := μ) (d + 5) hO hO16) ?_
  refine am_g 3 98 [some (.ref 14), some (.int (nI t)), some (.int (nI k)), some (.int 5), none] [.int 5, .ref 14] (hG σ sr ln Lc μ) rfl ?_
  refine am_call (y := 130) (vs := [.ref 14, .int 5]) (rest := []) (v := (some (.ref (75 + Lc)))) (h1 := (hXC (am_us (am_up σ 4 (upd (σ 4) O ((σ 7 3) - 48))) 6 (nI (O + 1))) Lc μ (((List.range Lc).map (hLn sr ln)) ++ [.inr (5, [.int ((σ 7 0) - 97), .int (-1), .int ((σ 7 3) - 48), .int 0, .int 0, .int (-1), .int 1, .int (nI O)])]))) rfl rfl rfl (sp_X11_lineOfTape_5 (σ := σ) (μ := μ) d hT hT20 hlen hO hO16) ?_
  refine am_g 1 103 [some (.ref 14), some (.int (nI t)), some (.int (nI k)), some (.int 5), some (.ref (75 + Lc))] [] (hXC (am_us (am_up σ 4 (upd (σ 4) O ((σ 7 3) - 48))) 6 (nI (O + 1))) Lc μ (((List.range Lc).map (hLn sr ln)) ++ [.inr (5, [.int ((σ 7 0) - 97), .int (-1), .int ((σ 7 3) - 48), .int 0, .int 0, .int (-1), .int 1, .int (nI O)])])) rfl ?_
  refine am_g 2 106 [some (.ref 14), some (.int (nI t)), some (.int (nI k)), some (.int 5), some (.ref (75 + Lc))] [.int (nI t), .ref (75 + Lc)] (hXC (am_us (am_up σ 4 (upd (σ 4) O ((σ 7 3) - 48))) 6 (nI (O + 1))) Lc μ (((List.range Lc).map (hLn sr ln)) ++ [.inr (5, [.int ((σ 7 0) - 97), .int (-1), .int ((σ 7 3) - 48), .int 0, .int 0, .int (-1), .int 1, .int (nI O)])])) rfl ?_
  refine am_nputR hcs rfl rfl rfl rfl ?_
  refine am_g 2 112 [some (.ref 14), some (.int (nI t)), some (.int (nI k)), some (.int 5), some (.ref (75 + Lc))] [.int (nI k), .ref (75 + Lc)] (hXC (am_us (am_up σ 4 (upd (σ 4) O ((σ 7 3) - 48))) 6 (nI (O + 1))) Lc μ (((List.range Lc).map (hLn sr ln)) ++ [.inr (5, [.int ((σ 7 0) - 97), .int (-1), .int ((σ 7 3) - 48), .int (nI t), .int 0, .int (-1), .int 1, .int (nI O)])])) rfl ?_
  refine am_nputR hcs rfl rfl rfl rfl ?_
  refine am_g 5 125 [some (.ref 14), some (.int (nI t)), some (.int (nI k)), some (.int 5), some (.ref (75 + Lc))] [.ref (75 + Lc), .int (nI Lc), .ref 22] (hXC (am_us (am_up σ 4 (upd (σ 4) O ((σ 7 3) - 48))) 6 (nI (O + 1))) Lc μ (((List.range Lc).map (hLn sr ln)) ++ [.inr (5, [.int ((σ 7 0) - 97), .int (-1), .int ((σ 7 3) - 48), .int (nI t), .int (nI k), .int (-1), .int 1, .int (nI O)])])) rfl ?_
  refine am_naastR hcs rfl rfl hL ?_
  refine am_g 2 130 [some (.ref 14), some (.int (nI t)), some (.int (nI k)), some (.int 5), some (.ref (75 + Lc))] [.ref 20] (hXY (am_us (am_up σ 4 (upd (σ 4) O ((σ 7 3) - 48))) 6 (nI (O + 1))) (nI Lc) (va_up (pu_arr Lc) Lc (some (75 + Lc))) μ (((List.range Lc).map (hLn sr ln)) ++ [.inr (5, [.int ((σ 7 0) - 97), .int (-1), .int ((σ 7 3) - 48), .int (nI t), .int (nI k), .int (-1), .int 1, .int (nI O)])])) rfl ?_
  refine am_call (y := 72) (vs := [.ref 20]) (rest := []) (v := none) (h1 := (hXY (am_us (am_us (am_up σ 4 (upd (σ 4) O ((σ 7 3) - 48))) 6 (nI (O + 1))) 8 0) (nI Lc) (va_up (pu_arr Lc) Lc (some (75 + Lc))) μ (((List.range Lc).map (hLn sr ln)) ++ [.inr (5, [.int ((σ 7 0) - 97), .int (-1), .int ((σ 7 3) - 48), .int (nI t), .int (nI k), .int (-1), .int 1, .int (nI O)])]))) rfl rfl rfl (sp_X9_clear_y (d + 5)) ?_
  refine am_g 1 134 [some (.ref 14), some (.int (nI t)), some (.int (nI k)), some (.int 5), some (.ref (75 + Lc))] [.ref 14] (hXY (am_us (am_us (am_up σ 4 (upd (σ 4) O ((σ 7 3) - 48))) 6 (nI (O + 1))) 8 0) (nI Lc) (va_up (pu_arr Lc) Lc (some (75 + Lc))) μ (((List.range Lc).map (hLn sr ln)) ++ [.inr (5, [.int ((σ 7 0) - 97), .int (-1), .int ((σ 7 3) - 48), .int (nI t), .int (nI k), .int (-1), .int 1, .int (nI O)])])) rfl ?_
  refine am_call (y := 131) (vs := [.ref 14]) (rest := []) (v := none) (h1 := (hXY (am_us (am_us (am_us (am_us (am_up σ 4 (upd (σ 4) O ((σ 7 3) - 48))) 6 (nI (O + 1))) 8 0) 10 0) 20 0) (nI Lc) (va_up (pu_arr Lc) Lc (some (75 + Lc))) μ (((List.range Lc).map (hLn sr ln)) ++ [.inr (5, [.int ((σ 7 0) - 97), .int (-1), .int ((σ 7 3) - 48), .int (nI t), .int (nI k), .int (-1), .int 1, .int (nI O)])]))) rfl rfl rfl (sp_X11_forgetSets_y (d + 5)) ?_
  refine am_g 7 148 [some (.ref 14), some (.int (nI t)), some (.int (nI k)), some (.int 5), some (.ref (75 + Lc))] [.int (nI Lc)] (hXY (am_us (am_us (am_us (am_us (am_up σ 4 (upd (σ 4) O ((σ 7 3) - 48))) 6 (nI (O + 1))) 8 0) 10 0) 20 0) (nI Lc + 1) (va_up (pu_arr Lc) Lc (some (75 + Lc))) μ (((List.range Lc).map (hLn sr ln)) ++ [.inr (5, [.int ((σ 7 0) - 97), .int (-1), .int ((σ 7 3) - 48), .int (nI t), .int (nI k), .int (-1), .int 1, .int (nI O)])])) rfl ?_
  exact am_ret2 rfl rfl rfl rfl (hXY_hG rfl)
end LN
