/-! the reference: rounds -/
def pu_adS (N : Nat → Int32) (k : Nat) (s : Int32 × (Nat → Int32)) : Int32 × (Nat → Int32) := (if s.1 = 0 then (if N k = s.2 k then 0 else 1) else 1, upd s.2 k (N k))
theorem pu_ad_b (N W : Nat → Int32) : ∀ k, (am_it (pu_adS N) (0, W) k).1 = 0 ∨ (am_it (pu_adS N) (0, W) k).1 = 1 := by
  intro k
  induction k with
  | zero => exact Or.inl rfl
  | succ k ih =>
    rw [am_itS]
    unfold pu_adS
    dsimp only
    split
    · split
      · exact Or.inl rfl
      · exact Or.inr rfl
    · exact Or.inr rfl
def pu_nx (σ : Nat → Nat → Int32) (sr : Nat → Nat) (ln : Nat → Nat → Int32) (Lc : Nat) (bk : Bool) (wo : Int32) (W N : Nat → Int32) : Nat → Int32 := am_it (am_lnX σ sr ln Lc bk wo W) (am_fill W N 68 0) Lc
section MR
variable {xs : Nat → Int32} {LL : Nat} {σ μ : Nat → Nat → Int32} {sr : Nat → Nat} {ln : Nat → Nat → Int32} {Lc O : Nat} {bk : Bool}
theorem pu_fillS (g f : Nat → Int32) (i : Nat) : am_fill g f (i + 1) 0 = upd (am_fill g f i 0) i (g i) := by
  funext k
  unfold am_fill upd
  by_cases h : k = i
  · subst h; rw [if_pos (by omega), if_pos rfl]
  · rw [if_neg h]
    show _ = if 0 ≤ k ∧ k < i then g k else f k
    by_cases h2 : 0 ≤ k ∧ k < i
    · rw [if_pos h2, if_pos (by omega)]
    · rw [if_neg h2, if_neg (by omega)]
theorem pu_fill0 (g f : Nat → Int32) : am_fill g f 0 0 = f := by
  funext k
  exact if_neg (by omega)
theorem pu_go0 {P : (Nat → Int32) → Prop} {f g : Nat → Int32} (h : P (am_fill g f 0 0)) : P f := pu_fill0 g f ▸ h
theorem sp_X12_round (d : Nat) (hwf : am_WF σ sr ln Lc) (hRK : am_RK σ μ) (hRL : am_RL sr ln Lc μ) (hRO : am_RO σ sr ln Lc O μ) (hbk : μ 27 0 = am_b2 bk) (wo : Int32) (hwo : μ 28 0 = wo) (hok : am_okM (am_bM bk O) (μ 24)) : am_X xs LL (d + 5) 171 [.ref 47] (hG σ sr ln Lc μ) (some (.int (am_it (pu_adS (pu_nx σ sr ln Lc bk wo (μ 24) (μ 25))) (0, (μ 24)) 68).1)) (hG σ sr ln Lc (am_up (am_up μ 25 (pu_nx σ sr ln Lc bk wo (μ 24) (μ 25))) 24 (am_it (pu_adS (pu_nx σ sr ln Lc bk wo (μ 24) (μ 25))) (0, (μ 24)) 68).2)) := by
  refine am_XR (d := d + 4) (C := cd_X12_round) (L := [some (.ref 47), none, none]) rfl rfl rfl rfl ?_
  have hL40 : Lc ≤ 40 := hwf.2.2.2.2.2.2
  refine am_g 2 2 [some (.ref 47), some (.int 0), none] [] (hG σ sr ln Lc μ) rfl ?_
  have lpa : ∀ (ra i : Nat) (w : Option Value), i + ra = 68 → am_R xs LL cd_X12_round (am_X xs LL (d + 4)) 2 [some (.ref 47), some (.int (nI i)), w] [] (hG σ sr ln Lc (am_up μ 25 (am_fill (μ 24) (μ 25) i 0))) (some (.int (am_it (pu_adS (pu_nx σ sr ln Lc bk wo (μ 24) (μ 25))) (0, (μ 24)) 68).1)) (hG σ sr ln Lc (am_up (am_up μ 25 (pu_nx σ sr ln Lc bk wo (μ 24) (μ 25))) 24 (am_it (pu_adS (pu_nx σ sr ln Lc bk wo (μ 24) (μ 25))) (0, (μ 24)) 68).2)) := by
    intro ra
    induction ra with
    | zero =>
      intro i w hia
      have hi2a : i = 68 := by omega
      rw [hi2a]
      refine am_g 3 (if 68 ≤ (nI 68) then 26 else 8) [some (.ref 47), some (.int (nI 68)), w] [] (hG σ sr ln Lc (am_up μ 25 (am_fill (μ 24) (μ 25) 68 0))) rfl ?_
      rw [if_pos (show 68 ≤ (nI 68) from (am_dle (a := 68) (b := 68) (rfl) (rfl) (by omega) (by omega) (by omega)))]
      refine am_g 2 28 [some (.ref 47), some (.int 0), w] [] (hG σ sr ln Lc (am_up μ 25 (am_fill (μ 24) (μ 25) 68 0))) rfl ?_
      have lpb : ∀ (rb l : Nat) (w : Option Value), l + rb = Lc → am_R xs LL cd_X12_round (am_X xs LL (d + 4)) 28 [some (.ref 47), some (.int (nI l)), w] [] (hG σ sr ln Lc (am_up μ 25 (am_it (am_lnX σ sr ln Lc bk wo (μ 24)) (am_fill (μ 24) (μ 25) 68 0) l))) (some (.int (am_it (pu_adS (pu_nx σ sr ln Lc bk wo (μ 24) (μ 25))) (0, (μ 24)) 68).1)) (hG σ sr ln Lc (am_up (am_up μ 25 (pu_nx σ sr ln Lc bk wo (μ 24) (μ 25))) 24 (am_it (pu_adS (pu_nx σ sr ln Lc bk wo (μ 24) (μ 25))) (0, (μ 24)) 68).2)) := by
        intro rb
        induction rb with
        | zero =>
          intro l w hib
          have hi2b : l = Lc := by omega
          rw [hi2b]
          refine am_g 3 33 [some (.ref 47), some (.int (nI Lc)), w] [.int (μ 17 0), .int (nI Lc)] (hG σ sr ln Lc (am_up μ 25 (am_it (am_lnX σ sr ln Lc bk wo (μ 24)) (am_fill (μ 24) (μ 25) 68 0) Lc))) rfl ?_
          rw [show (μ 17 0) = (nI Lc) from hRL.1]
          refine am_g 1 (if (nI Lc) ≤ (nI Lc) then 64 else 36) [some (.ref 47), some (.int (nI Lc)), w] [] (hG σ sr ln Lc (am_up μ 25 (am_it (am_lnX σ sr ln Lc bk wo (μ 24)) (am_fill (μ 24) (μ 25) 68 0) Lc))) rfl ?_
          rw [if_pos (show (nI Lc) ≤ (nI Lc) from (am_dle (a := Lc) (b := Lc) (rfl) (rfl) (by omega) (by omega) (by omega)))]
          refine am_g 4 68 [some (.ref 47), some (.int 0), some (.int 0)] [] (hG σ sr ln Lc (am_up μ 25 (am_it (am_lnX σ sr ln Lc bk wo (μ 24)) (am_fill (μ 24) (μ 25) 68 0) Lc))) rfl ?_
          have lpc : ∀ (rc k : Nat), k + rc = 68 → am_R xs LL cd_X12_round (am_X xs LL (d + 4)) 68 [some (.ref 47), some (.int (am_it (pu_adS (pu_nx σ sr ln Lc bk wo (μ 24) (μ 25))) (0, (μ 24)) k).1), some (.int (nI k))] [] (hG σ sr ln Lc (am_up (am_up μ 25 (pu_nx σ sr ln Lc bk wo (μ 24) (μ 25))) 24 (am_it (pu_adS (pu_nx σ sr ln Lc bk wo (μ 24) (μ 25))) (0, (μ 24)) k).2)) (some (.int (am_it (pu_adS (pu_nx σ sr ln Lc bk wo (μ 24) (μ 25))) (0, (μ 24)) 68).1)) (hG σ sr ln Lc (am_up (am_up μ 25 (pu_nx σ sr ln Lc bk wo (μ 24) (μ 25))) 24 (am_it (pu_adS (pu_nx σ sr ln Lc bk wo (μ 24) (μ 25))) (0, (μ 24)) 68).2)) := by
            intro rc
            induction rc with
            | zero =>
              intro k  hic
              have hi2c : k = 68 := by omega
              rw [hi2c]
              refine am_g 3 (if 68 ≤ (nI 68) then 117 else 74) [some (.ref 47), some (.int (am_it (pu_adS (pu_nx σ sr ln Lc bk wo (μ 24) (μ 25))) (0, (μ 24)) 68).1), some (.int (nI 68))] [] (hG σ sr ln Lc (am_up (am_up μ 25 (pu_nx σ sr ln Lc bk wo (μ 24) (μ 25))) 24 (am_it (pu_adS (pu_nx σ sr ln Lc bk wo (μ 24) (μ 25))) (0, (μ 24)) 68).2)) rfl ?_
              rw [if_pos (show 68 ≤ (nI 68) from (am_dle (a := 68) (b := 68) (rfl) (rfl) (by omega) (by omega) (by omega)))]
              refine am_g 1 118 [some (.ref 47), some (.int (am_it (pu_adS (pu_nx σ sr ln Lc bk wo (μ 24) (μ 25))) (0, (μ 24)) 68).1), some (.int (nI 68))] [.int (am_it (pu_adS (pu_nx σ sr ln Lc bk wo (μ 24) (μ 25))) (0, (μ 24)) 68).1] (hG σ sr ln Lc (am_up (am_up μ 25 (pu_nx σ sr ln Lc bk wo (μ 24) (μ 25))) 24 (am_it (pu_adS (pu_nx σ sr ln Lc bk wo (μ 24) (μ 25))) (0, (μ 24)) 68).2)) rfl ?_
              rcases pu_ad_b (pu_nx σ sr ln Lc bk wo (μ 24) (μ 25)) (μ 24) 68 with e | e <;> (rw [e]; exact am_ret2 rfl rfl rfl rfl rfl)
            | succ rc ihc =>
              intro k  hic
              have hi2c : k < 68 := by omega
              refine am_g 3 (if 68 ≤ (nI k) then 117 else 74) [some (.ref 47), some (.int (am_it (pu_adS (pu_nx σ sr ln Lc bk wo (μ 24) (μ 25))) (0, (μ 24)) k).1), some (.int (nI k))] [] (hG σ sr ln Lc (am_up (am_up μ 25 (pu_nx σ sr ln Lc bk wo (μ 24) (μ 25))) 24 (am_it (pu_adS (pu_nx σ sr ln Lc bk wo (μ 24) (μ 25))) (0, (μ 24)) k).2)) rfl ?_
              rw [if_neg (show ¬ 68 ≤ (nI k) from (am_dnle (a := 68) (b := k) (rfl) (rfl) (by omega) (by omega) (by omega)))]
              refine am_g 2 (if (am_it (pu_adS (pu_nx σ sr ln Lc bk wo (μ 24) (μ 25))) (0, (μ 24)) k).1 = 0 then 78 else 93) [some (.ref 47), some (.int (am_it (pu_adS (pu_nx σ sr ln Lc bk wo (μ 24) (μ 25))) (0, (μ 24)) k).1), some (.int (nI k))] [] (hG σ sr ln Lc (am_up (am_up μ 25 (pu_nx σ sr ln Lc bk wo (μ 24) (μ 25))) 24 (am_it (pu_adS (pu_nx σ sr ln Lc bk wo (μ 24) (μ 25))) (0, (μ 24)) k).2)) rfl (am_brR (fun c1 => ?_) (fun c1 => ?_))
              · skip
                refine am_g 3 83 [some (.ref 47), some (.int (am_it (pu_adS (pu_nx σ sr ln Lc bk wo (μ 24) (μ 25))) (0, (μ 24)) k).1), some (.int (nI k))] [.int (nI k), .ref 66] (hG σ sr ln Lc (am_up (am_up μ 25 (pu_nx σ sr ln Lc bk wo (μ 24) (μ 25))) 24 (am_it (pu_adS (pu_nx σ sr ln Lc bk wo (μ 24) (μ 25))) (0, (μ 24)) k).2)) rfl ?_
                refine am_ialdR (n := 68) (f := (pu_nx σ sr ln Lc bk wo (μ 24) (μ 25))) (k := k) rfl rfl (rfl) (by omega) (by decide) ?_
                refine am_g 3 89 [some (.ref 47), some (.int (am_it (pu_adS (pu_nx σ sr ln Lc bk wo (μ 24) (μ 25))) (0, (μ 24)) k).1), some (.int (nI k))] [.int (nI k), .ref 65, .int ((pu_nx σ sr ln Lc bk wo (μ 24) (μ 25)) k)] (hG σ sr ln Lc (am_up (am_up μ 25 (pu_nx σ sr ln Lc bk wo (μ 24) (μ 25))) 24 (am_it (pu_adS (pu_nx σ sr ln Lc bk wo (μ 24) (μ 25))) (0, (μ 24)) k).2)) rfl ?_
                refine am_ialdR (n := 68) (f := (am_it (pu_adS (pu_nx σ sr ln Lc bk wo (μ 24) (μ 25))) (0, (μ 24)) k).2) (k := k) rfl rfl (rfl) (by omega) (by decide) ?_
                refine am_g 1 (if ((pu_nx σ sr ln Lc bk wo (μ 24) (μ 25)) k) = ((am_it (pu_adS (pu_nx σ sr ln Lc bk wo (μ 24) (μ 25))) (0, (μ 24)) k).2 k) then 97 else 93) [some (.ref 47), some (.int (am_it (pu_adS (pu_nx σ sr ln Lc bk wo (μ 24) (μ 25))) (0, (μ 24)) k).1), some (.int (nI k))] [] (hG σ sr ln Lc (am_up (am_up μ 25 (pu_nx σ sr ln Lc bk wo (μ 24) (μ 25))) 24 (am_it (pu_adS (pu_nx σ sr ln Lc bk wo (μ 24) (μ 25))) (0, (μ 24)) k).2)) rfl (am_brR (fun c2 => ?_) (fun c2 => ?_))
                · skip
                  refine am_g 8 109 [some (.ref 47), some (.int 0), some (.int (nI k))] [.int (nI k), .ref 66, .int (nI k), .ref 65] (hG σ sr ln Lc (am_up (am_up μ 25 (pu_nx σ sr ln Lc bk wo (μ 24) (μ 25))) 24 (am_it (pu_adS (pu_nx σ sr ln Lc bk wo (μ 24) (μ 25))) (0, (μ 24)) k).2)) rfl ?_
                  refine am_ialdR (n := 68) (f := (pu_nx σ sr ln Lc bk wo (μ 24) (μ 25))) (k := k) rfl rfl (rfl) (by omega) (by decide) ?_
                  refine am_iastR (n := 68) (f := (am_it (pu_adS (pu_nx σ sr ln Lc bk wo (μ 24) (μ 25))) (0, (μ 24)) k).2) (k := k) (h1 := (hG σ sr ln Lc (am_up (am_up μ 25 (pu_nx σ sr ln Lc bk wo (μ 24) (μ 25))) 24 (upd (am_it (pu_adS (pu_nx σ sr ln Lc bk wo (μ 24) (μ 25))) (0, (μ 24)) k).2 k ((pu_nx σ sr ln Lc bk wo (μ 24) (μ 25)) k))))) rfl rfl (rfl) (by omega) (by decide) rfl ?_
                  refine am_g 2 68 [some (.ref 47), some (.int 0), some (.int ((nI k) + 1))] [] (hG σ sr ln Lc (am_up (am_up μ 25 (pu_nx σ sr ln Lc bk wo (μ 24) (μ 25))) 24 (upd (am_it (pu_adS (pu_nx σ sr ln Lc bk wo (μ 24) (μ 25))) (0, (μ 24)) k).2 k ((pu_nx σ sr ln Lc bk wo (μ 24) (μ 25)) k)))) rfl ?_
                  have q : (am_it (pu_adS (pu_nx σ sr ln Lc bk wo (μ 24) (μ 25))) (0, (μ 24)) (k + 1)) = (0, (upd (am_it (pu_adS (pu_nx σ sr ln Lc bk wo (μ 24) (μ 25))) (0, (μ 24)) k).2 k ((pu_nx σ sr ln Lc bk wo (μ 24) (μ 25)) k))) := by rw [am_itS]; exact congrArg (fun z => (z, (upd (am_it (pu_adS (pu_nx σ sr ln Lc bk wo (μ 24) (μ 25))) (0, (μ 24)) k).2 k ((pu_nx σ sr ln Lc bk wo (μ 24) (μ 25)) k)))) ((if_pos c1).trans (if_pos c2))
                  have kk := ihc (k + 1) (by omega)
                  rw [q, ← nI_up] at kk
                  exact kk
                · skip
                  refine am_g 9 109 [some (.ref 47), some (.int 1), some (.int (nI k))] [.int (nI k), .ref 66, .int (nI k), .ref 65] (hG σ sr ln Lc (am_up (am_up μ 25 (pu_nx σ sr ln Lc bk wo (μ 24) (μ 25))) 24 (am_it (pu_adS (pu_nx σ sr ln Lc bk wo (μ 24) (μ 25))) (0, (μ 24)) k).2)) rfl ?_
                  refine am_ialdR (n := 68) (f := (pu_nx σ sr ln Lc bk wo (μ 24) (μ 25))) (k := k) rfl rfl (rfl) (by omega) (by decide) ?_
                  refine am_iastR (n := 68) (f := (am_it (pu_adS (pu_nx σ sr ln Lc bk wo (μ 24) (μ 25))) (0, (μ 24)) k).2) (k := k) (h1 := (hG σ sr ln Lc (am_up (am_up μ 25 (pu_nx σ sr ln Lc bk wo (μ 24) (μ 25))) 24 (upd (am_it (pu_adS (pu_nx σ sr ln Lc bk wo (μ 24) (μ 25))) (0, (μ 24)) k).2 k ((pu_nx σ sr ln Lc bk wo (μ 24) (μ 25)) k))))) rfl rfl (rfl) (by omega) (by decide) rfl ?_
                  refine am_g 2 68 [some (.ref 47), some (.int 1), some (.int ((nI k) + 1))] [] (hG σ sr ln Lc (am_up (am_up μ 25 (pu_nx σ sr ln Lc bk wo (μ 24) (μ 25))) 24 (upd (am_it (pu_adS (pu_nx σ sr ln Lc bk wo (μ 24) (μ 25))) (0, (μ 24)) k).2 k ((pu_nx σ sr ln Lc bk wo (μ 24) (μ 25)) k)))) rfl ?_
                  have q : (am_it (pu_adS (pu_nx σ sr ln Lc bk wo (μ 24) (μ 25))) (0, (μ 24)) (k + 1)) = (1, (upd (am_it (pu_adS (pu_nx σ sr ln Lc bk wo (μ 24) (μ 25))) (0, (μ 24)) k).2 k ((pu_nx σ sr ln Lc bk wo (μ 24) (μ 25)) k))) := by rw [am_itS]; exact congrArg (fun z => (z, (upd (am_it (pu_adS (pu_nx σ sr ln Lc bk wo (μ 24) (μ 25))) (0, (μ 24)) k).2 k ((pu_nx σ sr ln Lc bk wo (μ 24) (μ 25)) k)))) ((if_pos c1).trans (if_neg c2))
                  have kk := ihc (k + 1) (by omega)
                  rw [q, ← nI_up] at kk
                  exact kk
              · skip
                refine am_g 9 109 [some (.ref 47), some (.int 1), some (.int (nI k))] [.int (nI k), .ref 66, .int (nI k), .ref 65] (hG σ sr ln Lc (am_up (am_up μ 25 (pu_nx σ sr ln Lc bk wo (μ 24) (μ 25))) 24 (am_it (pu_adS (pu_nx σ sr ln Lc bk wo (μ 24) (μ 25))) (0, (μ 24)) k).2)) rfl ?_
                refine am_ialdR (n := 68) (f := (pu_nx σ sr ln Lc bk wo (μ 24) (μ 25))) (k := k) rfl rfl (rfl) (by omega) (by decide) ?_
                refine am_iastR (n := 68) (f := (am_it (pu_adS (pu_nx σ sr ln Lc bk wo (μ 24) (μ 25))) (0, (μ 24)) k).2) (k := k) (h1 := (hG σ sr ln Lc (am_up (am_up μ 25 (pu_nx σ sr ln Lc bk wo (μ 24) (μ 25))) 24 (upd (am_it (pu_adS (pu_nx σ sr ln Lc bk wo (μ 24) (μ 25))) (0, (μ 24)) k).2 k ((pu_nx σ sr ln Lc bk wo (μ 24) (μ 25)) k))))) rfl rfl (rfl) (by omega) (by decide) rfl ?_
                refine am_g 2 68 [some (.ref 47), some (.int 1), some (.int ((nI k) + 1))] [] (hG σ sr ln Lc (am_up (am_up μ 25 (pu_nx σ sr ln Lc bk wo (μ 24) (μ 25))) 24 (upd (am_it (pu_adS (pu_nx σ sr ln Lc bk wo (μ 24) (μ 25))) (0, (μ 24)) k).2 k ((pu_nx σ sr ln Lc bk wo (μ 24) (μ 25)) k)))) rfl ?_
                have q : (am_it (pu_adS (pu_nx σ sr ln Lc bk wo (μ 24) (μ 25))) (0, (μ 24)) (k + 1)) = (1, (upd (am_it (pu_adS (pu_nx σ sr ln Lc bk wo (μ 24) (μ 25))) (0, (μ 24)) k).2 k ((pu_nx σ sr ln Lc bk wo (μ 24) (μ 25)) k))) := by rw [am_itS]; exact congrArg (fun z => (z, (upd (am_it (pu_adS (pu_nx σ sr ln Lc bk wo (μ 24) (μ 25))) (0, (μ 24)) k).2 k ((pu_nx σ sr ln Lc bk wo (μ 24) (μ 25)) k)))) (if_neg c1)
                have kk := ihc (k + 1) (by omega)
                rw [q, ← nI_up] at kk
                exact kk
          exact lpc 68 0 (by omega)
        | succ rb ihb =>
          intro l w hib
          have hi2b : l < Lc := by omega
          refine am_g 3 33 [some (.ref 47), some (.int (nI l)), w] [.int (μ 17 0), .int (nI l)] (hG σ sr ln Lc (am_up μ 25 (am_it (am_lnX σ sr ln Lc bk wo (μ 24)) (am_fill (μ 24) (μ 25) 68 0) l))) rfl ?_
          rw [show (μ 17 0) = (nI Lc) from hRL.1]
          refine am_g 1 (if (nI Lc) ≤ (nI l) then 64 else 36) [some (.ref 47), some (.int (nI l)), w] [] (hG σ sr ln Lc (am_up μ 25 (am_it (am_lnX σ sr ln Lc bk wo (μ 24)) (am_fill (μ 24) (μ 25) 68 0) l))) rfl ?_
          rw [if_neg (show ¬ (nI Lc) ≤ (nI l) from (am_dnle (a := Lc) (b := l) (rfl) (rfl) (by omega) (by omega) (by omega)))]
          refine am_g 3 41 [some (.ref 47), some (.int (nI l)), w] [.int (nI l), .ref 60] (hG σ sr ln Lc (am_up μ 25 (am_it (am_lnX σ sr ln Lc bk wo (μ 24)) (am_fill (μ 24) (μ 25) 68 0) l))) rfl ?_
          refine am_baldV (n := 40) (f := (μ 14)) (k := l) (w := (ln l 6)) rfl rfl (rfl) (by omega) (by decide) (hRL.2.2.2.2.2.2.2.2.1 l hi2b) ?_
          refine am_g 1 (if (ln l 6) = 0 then 58 else 45) [some (.ref 47), some (.int (nI l)), w] [] (hG σ sr ln Lc (am_up μ 25 (am_it (am_lnX σ sr ln Lc bk wo (μ 24)) (am_fill (μ 24) (μ 25) 68 0) l))) rfl (am_brR (fun c3 => ?_) (fun c3 => ?_))
          · skip
            refine am_g 2 28 [some (.ref 47), some (.int ((nI l) + 1)), w] [] (hG σ sr ln Lc (am_up μ 25 (am_it (am_lnX σ sr ln Lc bk wo (μ 24)) (am_fill (μ 24) (μ 25) 68 0) l))) rfl ?_
            have q : (am_it (am_lnX σ sr ln Lc bk wo (μ 24)) (am_fill (μ 24) (μ 25) 68 0) (l + 1)) = (am_it (am_lnX σ sr ln Lc bk wo (μ 24)) (am_fill (μ 24) (μ 25) 68 0) l) := by
              rw [am_itS]
              by_cases hw : nI l = wo
              · exact (if_pos hi2b).trans (if_pos hw)
              · exact (if_pos hi2b).trans ((if_neg hw).trans (if_pos c3))
            rw [nI_up, ← q]
            exact ihb (l + 1) _ (by omega)
          · skip
            refine am_g 3 50 [some (.ref 47), some (.int (nI l)), w] [.int (μ 28 0), .int (nI l)] (hG σ sr ln Lc (am_up μ 25 (am_it (am_lnX σ sr ln Lc bk wo (μ 24)) (am_fill (μ 24) (μ 25) 68 0) l))) rfl ?_
            rw [show (μ 28 0) = wo from hwo]
            refine am_g 1 (if (nI l) = wo then 58 else 53) [some (.ref 47), some (.int (nI l)), w] [] (hG σ sr ln Lc (am_up μ 25 (am_it (am_lnX σ sr ln Lc bk wo (μ 24)) (am_fill (μ 24) (μ 25) 68 0) l))) rfl (am_brR (fun c4 => ?_) (fun c4 => ?_))
            · skip
              refine am_g 2 28 [some (.ref 47), some (.int ((nI l) + 1)), w] [] (hG σ sr ln Lc (am_up μ 25 (am_it (am_lnX σ sr ln Lc bk wo (μ 24)) (am_fill (μ 24) (μ 25) 68 0) l))) rfl ?_
              have q : (am_it (am_lnX σ sr ln Lc bk wo (μ 24)) (am_fill (μ 24) (μ 25) 68 0) (l + 1)) = (am_it (am_lnX σ sr ln Lc bk wo (μ 24)) (am_fill (μ 24) (μ 25) 68 0) l) := by
                rw [am_itS]
                exact (if_pos hi2b).trans (if_pos c4)
              rw [nI_up, ← q]
              exact ihb (l + 1) _ (by omega)
            · skip
              refine am_g 2 55 [some (.ref 47), some (.int (nI l)), w] [.int (nI l), .ref 47] (hG σ sr ln Lc (am_up μ 25 (am_it (am_lnX σ sr ln Lc bk wo (μ 24)) (am_fill (μ 24) (μ 25) 68 0) l))) rfl ?_
              refine am_call (y := 170) (vs := [.ref 47, .int (nI l)]) (rest := []) (v := none) (h1 := (hG σ sr ln Lc (am_up μ 25 (am_alw (am_kf σ bk) (σ 1) (σ 2) (σ 3) bk (sr l) (ln l) (μ 24) (am_it (am_lnX σ sr ln Lc bk wo (μ 24)) (am_fill (μ 24) (μ 25) 68 0) l))))) rfl rfl rfl (sp_X12_allows (σ := σ) (μ := (am_up μ 25 (am_it (am_lnX σ sr ln Lc bk wo (μ 24)) (am_fill (μ 24) (μ 25) 68 0) l))) d l hi2b hwf hRK hRL hRO hbk hok) ?_
              refine am_g 2 28 [some (.ref 47), some (.int ((nI l) + 1)), w] [] (hG σ sr ln Lc (am_up μ 25 (am_alw (am_kf σ bk) (σ 1) (σ 2) (σ 3) bk (sr l) (ln l) (μ 24) (am_it (am_lnX σ sr ln Lc bk wo (μ 24)) (am_fill (μ 24) (μ 25) 68 0) l)))) rfl ?_
              have q : (am_it (am_lnX σ sr ln Lc bk wo (μ 24)) (am_fill (μ 24) (μ 25) 68 0) (l + 1)) = (am_alw (am_kf σ bk) (σ 1) (σ 2) (σ 3) bk (sr l) (ln l) (μ 24) (am_it (am_lnX σ sr ln Lc bk wo (μ 24)) (am_fill (μ 24) (μ 25) 68 0) l)) := by
                rw [am_itS]
                exact (if_pos hi2b).trans ((if_neg c4).trans (if_neg c3))
              rw [nI_up, ← q]
              exact ihb (l + 1) _ (by omega)
      exact lpb Lc 0 _ (by omega)
    | succ ra iha =>
      intro i w hia
      have hi2a : i < 68 := by omega
      refine am_g 3 (if 68 ≤ (nI i) then 26 else 8) [some (.ref 47), some (.int (nI i)), w] [] (hG σ sr ln Lc (am_up μ 25 (am_fill (μ 24) (μ 25) i 0))) rfl ?_
      rw [if_neg (show ¬ 68 ≤ (nI i) from (am_dnle (a := 68) (b := i) (rfl) (rfl) (by omega) (by omega) (by omega)))]
      refine am_g 6 18 [some (.ref 47), some (.int (nI i)), w] [.int (nI i), .ref 65, .int (nI i), .ref 66] (hG σ sr ln Lc (am_up μ 25 (am_fill (μ 24) (μ 25) i 0))) rfl ?_
      refine am_ialdR (n := 68) (f := (μ 24)) (k := i) rfl rfl (rfl) (by omega) (by decide) ?_
      refine am_iastR (n := 68) (f := (am_fill (μ 24) (μ 25) i 0)) (k := i) (h1 := (hG σ sr ln Lc (am_up μ 25 (upd (am_fill (μ 24) (μ 25) i 0) i (μ 24 i))))) rfl rfl (rfl) (by omega) (by decide) rfl ?_
      refine am_g 2 2 [some (.ref 47), some (.int ((nI i) + 1)), w] [] (hG σ sr ln Lc (am_up μ 25 (upd (am_fill (μ 24) (μ 25) i 0) i (μ 24 i)))) rfl ?_
      rw [nI_up, ← pu_fillS]
      exact iha (i + 1) _ (by omega)
  have e := lpa 68 0 none (by omega)
  rw [pu_fill0, am_up_id] at e
  exact e
def pu_YS (σ : Nat → Nat → Int32) (sr : Nat → Nat) (ln : Nat → Nat → Int32) (Lc : Nat) (bk : Bool) (wo : Int32) (_r : Nat) (s : Int32 × (Nat → Int32) × (Nat → Int32)) : Int32 × (Nat → Int32) × (Nat → Int32) := ((am_it (pu_adS (pu_nx σ sr ln Lc bk wo s.2.1 s.2.2)) (0, s.2.1) 68).1, (am_it (pu_adS (pu_nx σ sr ln Lc bk wo s.2.1 s.2.2)) (0, s.2.1) 68).2, pu_nx σ sr ln Lc bk wo s.2.1 s.2.2)
def pu_Y (σ : Nat → Nat → Int32) (sr : Nat → Nat) (ln : Nat → Nat → Int32) (Lc : Nat) (bk : Bool) (wo : Int32) (S N : Nat → Int32) (r : Nat) : Int32 × (Nat → Int32) × (Nat → Int32) := am_it (pu_YS σ sr ln Lc bk wo) (1, am_fill (fun _ => 0) S 68 0, N) r
theorem pu_Y_S (σ : Nat → Nat → Int32) (sr : Nat → Nat) (ln : Nat → Nat → Int32) (Lc : Nat) (bk : Bool) (wo : Int32) (S N : Nat → Int32) (r : Nat) : pu_Y σ sr ln Lc bk wo S N (r + 1) = pu_YS σ sr ln Lc bk wo r (pu_Y σ sr ln Lc bk wo S N r) := rfl
theorem sp_X12_workOut_0 (d : Nat) (hwf : am_WF σ sr ln Lc) (hRK : am_RK σ μ) (hRL : am_RL sr ln Lc μ) (hRO : am_RO σ sr ln Lc O μ) (wo : Int32) (N : Nat) (hrun : ∀ r, r < N → ¬ (pu_Y σ sr ln Lc false wo (μ 24) (μ 25) (r + 1)).1 = 0) (hstop : (pu_Y σ sr ln Lc false wo (μ 24) (μ 25) (N + 1)).1 = 0) (hok : ∀ r, r ≤ N → am_okM (am_bM false O) (pu_Y σ sr ln Lc false wo (μ 24) (μ 25) r).2.1) : am_X xs LL (d + 6) 173 [.ref 47, .int 0, .int wo] (hG σ sr ln Lc μ) none (hG σ sr ln Lc (am_up (am_up (am_us (am_us (am_us μ 27 0) 28 wo) 26 (nI N)) 24 (pu_Y σ sr ln Lc false wo (μ 24) (μ 25) (N + 1)).2.1) 25 (pu_Y σ sr ln Lc false wo (μ 24) (μ 25) (N + 1)).2.2)) := by
  refine am_XR (d := d + 5) (C := cd_X12_workOut) (L := [some (.ref 47), some (.int 0), some (.int wo)]) rfl rfl rfl rfl ?_
  refine am_g 3 3 [some (.ref 47), some (.int 0), some (.int wo)] [.int wo, .int 0, .ref 47] (hG σ sr ln Lc μ) rfl ?_
  refine am_call (y := 172) (vs := [.ref 47, .int 0, .int wo]) (rest := []) (v := none) (h1 := (hG σ sr ln Lc (am_up (am_us (am_us (am_us μ 27 0) 28 wo) 26 0) 24 (am_fill (fun _ => 0) (μ 24) 68 0)))) rfl rfl rfl (sp_X12_begin_0 (σ := σ) (μ := μ) (d + 4) wo) ?_
  have lpo : ∀ (q r : Nat), r + q = N → am_R xs LL cd_X12_workOut (am_X xs LL (d + 5)) 6 [some (.ref 47), some (.int 0), some (.int wo)] [] (hG σ sr ln Lc (am_up (am_up (am_us (am_us (am_us μ 27 0) 28 wo) 26 (nI r)) 24 (pu_Y σ sr ln Lc false wo (μ 24) (μ 25) r).2.1) 25 (pu_Y σ sr ln Lc false wo (μ 24) (μ 25) r).2.2)) none (hG σ sr ln Lc (am_up (am_up (am_us (am_us (am_us μ 27 0) 28 wo) 26 (nI N)) 24 (pu_Y σ sr ln Lc false wo (μ 24) (μ 25) (N + 1)).2.1) 25 (pu_Y σ sr ln Lc false wo (μ 24) (μ 25) (N + 1)).2.2)) := by
    intro q
    induction q with
    | zero =>
      intro r hr
      have hr2 : r = N := by omega
      refine am_g 1 7 [some (.ref 47), some (.int 0), some (.int wo)] [.ref 47] (hG σ sr ln Lc (am_up (am_up (am_us (am_us (am_us μ 27 0) 28 wo) 26 (nI r)) 24 (pu_Y σ sr ln Lc false wo (μ 24) (μ 25) r).2.1) 25 (pu_Y σ sr ln Lc false wo (μ 24) (μ 25) r).2.2)) rfl ?_
      refine am_call (y := 171) (vs := [.ref 47]) (rest := []) (v := (some (.int (am_it (pu_adS (pu_nx σ sr ln Lc false wo (pu_Y σ sr ln Lc false wo (μ 24) (μ 25) r).2.1 (pu_Y σ sr ln Lc false wo (μ 24) (μ 25) r).2.2)) (0, (pu_Y σ sr ln Lc false wo (μ 24) (μ 25) r).2.1) 68).1))) (h1 := (hG σ sr ln Lc (am_up (am_up (am_us (am_us (am_us μ 27 0) 28 wo) 26 (nI r)) 25 (pu_nx σ sr ln Lc false wo (pu_Y σ sr ln Lc false wo (μ 24) (μ 25) r).2.1 (pu_Y σ sr ln Lc false wo (μ 24) (μ 25) r).2.2)) 24 (am_it (pu_adS (pu_nx σ sr ln Lc false wo (pu_Y σ sr ln Lc false wo (μ 24) (μ 25) r).2.1 (pu_Y σ sr ln Lc false wo (μ 24) (μ 25) r).2.2)) (0, (pu_Y σ sr ln Lc false wo (μ 24) (μ 25) r).2.1) 68).2))) rfl rfl rfl (sp_X12_round (σ := σ) (μ := (am_up (am_up (am_us (am_us (am_us μ 27 0) 28 wo) 26 (nI r)) 24 (pu_Y σ sr ln Lc false wo (μ 24) (μ 25) r).2.1) 25 (pu_Y σ sr ln Lc false wo (μ 24) (μ 25) r).2.2)) (bk := false) d hwf hRK hRL hRO rfl wo rfl (hok r (by omega))) ?_
      refine am_g 1 (if (am_it (pu_adS (pu_nx σ sr ln Lc false wo (pu_Y σ sr ln Lc false wo (μ 24) (μ 25) r).2.1 (pu_Y σ sr ln Lc false wo (μ 24) (μ 25) r).2.2)) (0, (pu_Y σ sr ln Lc false wo (μ 24) (μ 25) r).2.1) 68).1 = 0 then 26 else 13) [some (.ref 47), some (.int 0), some (.int wo)] [] (hG σ sr ln Lc (am_up (am_up (am_us (am_us (am_us μ 27 0) 28 wo) 26 (nI r)) 25 (pu_nx σ sr ln Lc false wo (pu_Y σ sr ln Lc false wo (μ 24) (μ 25) r).2.1 (pu_Y σ sr ln Lc false wo (μ 24) (μ 25) r).2.2)) 24 (am_it (pu_adS (pu_nx σ sr ln Lc false wo (pu_Y σ sr ln Lc false wo (μ 24) (μ 25) r).2.1 (pu_Y σ sr ln Lc false wo (μ 24) (μ 25) r).2.2)) (0, (pu_Y σ sr ln Lc false wo (μ 24) (μ 25) r).2.1) 68).2)) rfl ?_
      rw [if_pos (show (am_it (pu_adS (pu_nx σ sr ln Lc false wo (pu_Y σ sr ln Lc false wo (μ 24) (μ 25) r).2.1 (pu_Y σ sr ln Lc false wo (μ 24) (μ 25) r).2.2)) (0, (pu_Y σ sr ln Lc false wo (μ 24) (μ 25) r).2.1) 68).1 = 0 from (by have e := hstop; rw [← hr2, pu_Y_S] at e; dsimp only [pu_YS] at e; exact e))]
      exact am_ret2 rfl rfl rfl rfl (by rw [← hr2, pu_Y_S]; rfl)
    | succ q iho =>
      intro r hr
      have hr2 : r < N := by omega
      refine am_g 1 7 [some (.ref 47), some (.int 0), some (.int wo)] [.ref 47] (hG σ sr ln Lc (am_up (am_up (am_us (am_us (am_us μ 27 0) 28 wo) 26 (nI r)) 24 (pu_Y σ sr ln Lc false wo (μ 24) (μ 25) r).2.1) 25 (pu_Y σ sr ln Lc false wo (μ 24) (μ 25) r).2.2)) rfl ?_
      refine am_call (y := 171) (vs := [.ref 47]) (rest := []) (v := (some (.int (am_it (pu_adS (pu_nx σ sr ln Lc false wo (pu_Y σ sr ln Lc false wo (μ 24) (μ 25) r).2.1 (pu_Y σ sr ln Lc false wo (μ 24) (μ 25) r).2.2)) (0, (pu_Y σ sr ln Lc false wo (μ 24) (μ 25) r).2.1) 68).1))) (h1 := (hG σ sr ln Lc (am_up (am_up (am_us (am_us (am_us μ 27 0) 28 wo) 26 (nI r)) 25 (pu_nx σ sr ln Lc false wo (pu_Y σ sr ln Lc false wo (μ 24) (μ 25) r).2.1 (pu_Y σ sr ln Lc false wo (μ 24) (μ 25) r).2.2)) 24 (am_it (pu_adS (pu_nx σ sr ln Lc false wo (pu_Y σ sr ln Lc false wo (μ 24) (μ 25) r).2.1 (pu_Y σ sr ln Lc false wo (μ 24) (μ 25) r).2.2)) (0, (pu_Y σ sr ln Lc false wo (μ 24) (μ 25) r).2.1) 68).2))) rfl rfl rfl (sp_X12_round (σ := σ) (μ := (am_up (am_up (am_us (am_us (am_us μ 27 0) 28 wo) 26 (nI r)) 24 (pu_Y σ sr ln Lc false wo (μ 24) (μ 25) r).2.1) 25 (pu_Y σ sr ln Lc false wo (μ 24) (μ 25) r).2.2)) (bk := false) d hwf hRK hRL hRO rfl wo rfl (hok r (by omega))) ?_
      refine am_g 1 (if (am_it (pu_adS (pu_nx σ sr ln Lc false wo (pu_Y σ sr ln Lc false wo (μ 24) (μ 25) r).2.1 (pu_Y σ sr ln Lc false wo (μ 24) (μ 25) r).2.2)) (0, (pu_Y σ sr ln Lc false wo (μ 24) (μ 25) r).2.1) 68).1 = 0 then 26 else 13) [some (.ref 47), some (.int 0), some (.int wo)] [] (hG σ sr ln Lc (am_up (am_up (am_us (am_us (am_us μ 27 0) 28 wo) 26 (nI r)) 25 (pu_nx σ sr ln Lc false wo (pu_Y σ sr ln Lc false wo (μ 24) (μ 25) r).2.1 (pu_Y σ sr ln Lc false wo (μ 24) (μ 25) r).2.2)) 24 (am_it (pu_adS (pu_nx σ sr ln Lc false wo (pu_Y σ sr ln Lc false wo (μ 24) (μ 25) r).2.1 (pu_Y σ sr ln Lc false wo (μ 24) (μ 25) r).2.2)) (0, (pu_Y σ sr ln Lc false wo (μ 24) (μ 25) r).2.1) 68).2)) rfl ?_
      rw [if_neg (show ¬ (am_it (pu_adS (pu_nx σ sr ln Lc false wo (pu_Y σ sr ln Lc false wo (μ 24) (μ 25) r).2.1 (pu_Y σ sr ln Lc false wo (μ 24) (μ 25) r).2.2)) (0, (pu_Y σ sr ln Lc false wo (μ 24) (μ 25) r).2.1) 68).1 = 0 from (by have e := hrun r hr2; rw [pu_Y_S] at e; dsimp only [pu_YS] at e; exact e))]
      refine am_g 7 6 [some (.ref 47), some (.int 0), some (.int wo)] [] (hG σ sr ln Lc (am_us (am_up (am_up (am_us (am_us μ 27 0) 28 wo) 25 (pu_nx σ sr ln Lc false wo (pu_Y σ sr ln Lc false wo (μ 24) (μ 25) r).2.1 (pu_Y σ sr ln Lc false wo (μ 24) (μ 25) r).2.2)) 24 (am_it (pu_adS (pu_nx σ sr ln Lc false wo (pu_Y σ sr ln Lc false wo (μ 24) (μ 25) r).2.1 (pu_Y σ sr ln Lc false wo (μ 24) (μ 25) r).2.2)) (0, (pu_Y σ sr ln Lc false wo (μ 24) (μ 25) r).2.1) 68).2) 26 ((nI r) + 1))) rfl ?_
      have e := iho (r + 1) (by omega)
      rw [pu_Y_S σ sr ln Lc false wo (μ 24) (μ 25) r] at e
      dsimp only [pu_YS] at e
      rw [nI_up]
      exact e
  exact lpo N 0 (by omega)
theorem sp_X12_workOut_1 (d : Nat) (hwf : am_WF σ sr ln Lc) (hRK : am_RK σ μ) (hRL : am_RL sr ln Lc μ) (hRO : am_RO σ sr ln Lc O μ) (wo : Int32) (N : Nat) (hrun : ∀ r, r < N → ¬ (pu_Y σ sr ln Lc true wo (μ 24) (μ 25) (r + 1)).1 = 0) (hstop : (pu_Y σ sr ln Lc true wo (μ 24) (μ 25) (N + 1)).1 = 0) (hok : ∀ r, r ≤ N → am_okM (am_bM true O) (pu_Y σ sr ln Lc true wo (μ 24) (μ 25) r).2.1) : am_X xs LL (d + 6) 173 [.ref 47, .int 1, .int wo] (hG σ sr ln Lc μ) none (hG σ sr ln Lc (am_up (am_up (am_us (am_us (am_us μ 27 1) 28 wo) 26 (nI N)) 24 (pu_Y σ sr ln Lc true wo (μ 24) (μ 25) (N + 1)).2.1) 25 (pu_Y σ sr ln Lc true wo (μ 24) (μ 25) (N + 1)).2.2)) := by
  refine am_XR (d := d + 5) (C := cd_X12_workOut) (L := [some (.ref 47), some (.int 1), some (.int wo)]) rfl rfl rfl rfl ?_
  refine am_g 3 3 [some (.ref 47), some (.int 1), some (.int wo)] [.int wo, .int 1, .ref 47] (hG σ sr ln Lc μ) rfl ?_
  refine am_call (y := 172) (vs := [.ref 47, .int 1, .int wo]) (rest := []) (v := none) (h1 := (hG σ sr ln Lc (am_up (am_us (am_us (am_us μ 27 1) 28 wo) 26 0) 24 (am_fill (fun _ => 0) (μ 24) 68 0)))) rfl rfl rfl (sp_X12_begin_1 (σ := σ) (μ := μ) (d + 4) wo) ?_
  have lpo : ∀ (q r : Nat), r + q = N → am_R xs LL cd_X12_workOut (am_X xs LL (d + 5)) 6 [some (.ref 47), some (.int 1), some (.int wo)] [] (hG σ sr ln Lc (am_up (am_up (am_us (am_us (am_us μ 27 1) 28 wo) 26 (nI r)) 24 (pu_Y σ sr ln Lc true wo (μ 24) (μ 25) r).2.1) 25 (pu_Y σ sr ln Lc true wo (μ 24) (μ 25) r).2.2)) none (hG σ sr ln Lc (am_up (am_up (am_us (am_us (am_us μ 27 1) 28 wo) 26 (nI N)) 24 (pu_Y σ sr ln Lc true wo (μ 24) (μ 25) (N + 1)).2.1) 25 (pu_Y σ sr ln Lc true wo (μ 24) (μ 25) (N + 1)).2.2)) := by
    intro q
    induction q with
    | zero =>
      intro r hr
      have hr2 : r = N := by omega
      refine am_g 1 7 [some (.ref 47), some (.int 1), some (.int wo)] [.ref 47] (hG σ sr ln Lc (am_up (am_up (am_us (am_us (am_us μ 27 1) 28 wo) 26 (nI r)) 24 (pu_Y σ sr ln Lc true wo (μ 24) (μ 25) r).2.1) 25 (pu_Y σ sr ln Lc true wo (μ 24) (μ 25) r).2.2)) rfl ?_
      refine am_call (y := 171) (vs := [.ref 47]) (rest := []) (v := (some (.int (am_it (pu_adS (pu_nx σ sr ln Lc true wo (pu_Y σ sr ln Lc true wo (μ 24) (μ 25) r).2.1 (pu_Y σ sr ln Lc true wo (μ 24) (μ 25) r).2.2)) (0, (pu_Y σ sr ln Lc true wo (μ 24) (μ 25) r).2.1) 68).1))) (h1 := (hG σ sr ln Lc (am_up (am_up (am_us (am_us (am_us μ 27 1) 28 wo) 26 (nI r)) 25 (pu_nx σ sr ln Lc true wo (pu_Y σ sr ln Lc true wo (μ 24) (μ 25) r).2.1 (pu_Y σ sr ln Lc true wo (μ 24) (μ 25) r).2.2)) 24 (am_it (pu_adS (pu_nx σ sr ln Lc true wo (pu_Y σ sr ln Lc true wo (μ 24) (μ 25) r).2.1 (pu_Y σ sr ln Lc true wo (μ 24) (μ 25) r).2.2)) (0, (pu_Y σ sr ln Lc true wo (μ 24) (μ 25) r).2.1) 68).2))) rfl rfl rfl (sp_X12_round (σ := σ) (μ := (am_up (am_up (am_us (am_us (am_us μ 27 1) 28 wo) 26 (nI r)) 24 (pu_Y σ sr ln Lc true wo (μ 24) (μ 25) r).2.1) 25 (pu_Y σ sr ln Lc true wo (μ 24) (μ 25) r).2.2)) (bk := true) d hwf hRK hRL hRO rfl wo rfl (hok r (by omega))) ?_
      refine am_g 1 (if (am_it (pu_adS (pu_nx σ sr ln Lc true wo (pu_Y σ sr ln Lc true wo (μ 24) (μ 25) r).2.1 (pu_Y σ sr ln Lc true wo (μ 24) (μ 25) r).2.2)) (0, (pu_Y σ sr ln Lc true wo (μ 24) (μ 25) r).2.1) 68).1 = 0 then 26 else 13) [some (.ref 47), some (.int 1), some (.int wo)] [] (hG σ sr ln Lc (am_up (am_up (am_us (am_us (am_us μ 27 1) 28 wo) 26 (nI r)) 25 (pu_nx σ sr ln Lc true wo (pu_Y σ sr ln Lc true wo (μ 24) (μ 25) r).2.1 (pu_Y σ sr ln Lc true wo (μ 24) (μ 25) r).2.2)) 24 (am_it (pu_adS (pu_nx σ sr ln Lc true wo (pu_Y σ sr ln Lc true wo (μ 24) (μ 25) r).2.1 (pu_Y σ sr ln Lc true wo (μ 24) (μ 25) r).2.2)) (0, (pu_Y σ sr ln Lc true wo (μ 24) (μ 25) r).2.1) 68).2)) rfl ?_
      rw [if_pos (show (am_it (pu_adS (pu_nx σ sr ln Lc true wo (pu_Y σ sr ln Lc true wo (μ 24) (μ 25) r).2.1 (pu_Y σ sr ln Lc true wo (μ 24) (μ 25) r).2.2)) (0, (pu_Y σ sr ln Lc true wo (μ 24) (μ 25) r).2.1) 68).1 = 0 from (by have e := hstop; rw [← hr2, pu_Y_S] at e; dsimp only [pu_YS] at e; exact e))]
      exact am_ret2 rfl rfl rfl rfl (by rw [← hr2, pu_Y_S]; rfl)
    | succ q iho =>
      intro r hr
      have hr2 : r < N := by omega
      refine am_g 1 7 [some (.ref 47), some (.int 1), some (.int wo)] [.ref 47] (hG σ sr ln Lc (am_up (am_up (am_us (am_us (am_us μ 27 1) 28 wo) 26 (nI r)) 24 (pu_Y σ sr ln Lc true wo (μ 24) (μ 25) r).2.1) 25 (pu_Y σ sr ln Lc true wo (μ 24) (μ 25) r).2.2)) rfl ?_
      refine am_call (y := 171) (vs := [.ref 47]) (rest := []) (v := (some (.int (am_it (pu_adS (pu_nx σ sr ln Lc true wo (pu_Y σ sr ln Lc true wo (μ 24) (μ 25) r).2.1 (pu_Y σ sr ln Lc true wo (μ 24) (μ 25) r).2.2)) (0, (pu_Y σ sr ln Lc true wo (μ 24) (μ 25) r).2.1) 68).1))) (h1 := (hG σ sr ln Lc (am_up (am_up (am_us (am_us (am_us μ 27 1) 28 wo) 26 (nI r)) 25 (pu_nx σ sr ln Lc true wo (pu_Y σ sr ln Lc true wo (μ 24) (μ 25) r).2.1 (pu_Y σ sr ln Lc true wo (μ 24) (μ 25) r).2.2)) 24 (am_it (pu_adS (pu_nx σ sr ln Lc true wo (pu_Y σ sr ln Lc true wo (μ 24) (μ 25) r).2.1 (pu_Y σ sr ln Lc true wo (μ 24) (μ 25) r).2.2)) (0, (pu_Y σ sr ln Lc true wo (μ 24) (μ 25) r).2.1) 68).2))) rfl rfl rfl (sp_X12_round (σ := σ) (μ := (am_up (am_up (am_us (am_us (am_us μ 27 1) 28 wo) 26 (nI r)) 24 (pu_Y σ sr ln Lc true wo (μ 24) (μ 25) r).2.1) 25 (pu_Y σ sr ln Lc true wo (μ 24) (μ 25) r).2.2)) (bk := true) d hwf hRK hRL hRO rfl wo rfl (hok r (by omega))) ?_
      refine am_g 1 (if (am_it (pu_adS (pu_nx σ sr ln Lc true wo (pu_Y σ sr ln Lc true wo (μ 24) (μ 25) r).2.1 (pu_Y σ sr ln Lc true wo (μ 24) (μ 25) r).2.2)) (0, (pu_Y σ sr ln Lc true wo (μ 24) (μ 25) r).2.1) 68).1 = 0 then 26 else 13) [some (.ref 47), some (.int 1), some (.int wo)] [] (hG σ sr ln Lc (am_up (am_up (am_us (am_us (am_us μ 27 1) 28 wo) 26 (nI r)) 25 (pu_nx σ sr ln Lc true wo (pu_Y σ sr ln Lc true wo (μ 24) (μ 25) r).2.1 (pu_Y σ sr ln Lc true wo (μ 24) (μ 25) r).2.2)) 24 (am_it (pu_adS (pu_nx σ sr ln Lc true wo (pu_Y σ sr ln Lc true wo (μ 24) (μ 25) r).2.1 (pu_Y σ sr ln Lc true wo (μ 24) (μ 25) r).2.2)) (0, (pu_Y σ sr ln Lc true wo (μ 24) (μ 25) r).2.1) 68).2)) rfl ?_
      rw [if_neg (show ¬ (am_it (pu_adS (pu_nx σ sr ln Lc true wo (pu_Y σ sr ln Lc true wo (μ 24) (μ 25) r).2.1 (pu_Y σ sr ln Lc true wo (μ 24) (μ 25) r).2.2)) (0, (pu_Y σ sr ln Lc true wo (μ 24) (μ 25) r).2.1) 68).1 = 0 from (by have e := hrun r hr2; rw [pu_Y_S] at e; dsimp only [pu_YS] at e; exact e))]
      refine am_g 7 6 [some (.ref 47), some (.int 1), some (.int wo)] [] (hG σ sr ln Lc (am_us (am_up (am_up (am_us (am_us μ 27 1) 28 wo) 25 (pu_nx σ sr ln Lc true wo (pu_Y σ sr ln Lc true wo (μ 24) (μ 25) r).2.1 (pu_Y σ sr ln Lc true wo (μ 24) (μ 25) r).2.2)) 24 (am_it (pu_adS (pu_nx σ sr ln Lc true wo (pu_Y σ sr ln Lc true wo (μ 24) (μ 25) r).2.1 (pu_Y σ sr ln Lc true wo (μ 24) (μ 25) r).2.2)) (0, (pu_Y σ sr ln Lc true wo (μ 24) (μ 25) r).2.1) 68).2) 26 ((nI r) + 1))) rfl ?_
      have e := iho (r + 1) (by omega)
      rw [pu_Y_S σ sr ln Lc true wo (μ 24) (μ 25) r] at e
      dsimp only [pu_YS] at e
      rw [nI_up]
      exact e
  exact lpo N 0 (by omega)
end MR
