/-! the class: a round is settled -/
def am_ntS (pl : Nat) (fresh rd : Int32) (o : Nat) (F : Nat → Int32) : Nat → Int32 := bif am_hb fresh o then upd F ((16 * pl) + o) rd else F
def am_note (pl : Nat) (fresh rd : Int32) (F : Nat → Int32) : Nat → Int32 := if pl < 20 then am_it (am_ntS pl fresh rd) F 16 else F
def am_fr (A H : Nat → Int32) (p : Nat) : Int32 := A p &&& (H p ^^^ (-1))
def am_seS (A : Nat → Int32) (rd : Int32) (p : Nat) (s : Int32 × (Nat → Int32) × (Nat → Int32)) : Int32 × (Nat → Int32) × (Nat → Int32) := if am_fr A s.2.1 p = 0 then s else (1, upd s.2.1 p (s.2.1 p ||| am_fr A s.2.1 p), am_note p (am_fr A s.2.1 p) rd s.2.2)
theorem am_seS_b (A : Nat → Int32) (rd : Int32) (H F : Nat → Int32) : ∀ p, (am_it (am_seS A rd) (0, H, F) p).1 = 0 ∨ (am_it (am_seS A rd) (0, H, F) p).1 = 1 := by
  intro p
  induction p with
  | zero => exact Or.inl rfl
  | succ p ih =>
    rw [am_itS]
    unfold am_seS
    split
    · exact ih
    · exact Or.inr rfl
section XT
variable {xs : Nat → Int32} {LL : Nat} {σ μ : Nat → Nat → Int32} {sr : Nat → Nat} {ln : Nat → Nat → Int32} {Lc : Nat}
theorem sp_X7_noteRound_0_lo (d : Nat) (pl : Nat) (fr rd : Int32) (hp : pl < 20) (hp2 : pl < 68) : am_X xs LL (d + 2) 55 [.ref 23, .int (nI pl), .int fr, .int rd] (hG σ sr ln Lc μ) none (hG (am_up σ 14 (am_it (am_ntS pl fr rd) (σ 14) 16)) sr ln Lc μ) := by
  refine am_XR (d := d + 1) (C := cd_X7_noteRound) (L := [some (.ref 23), some (.int (nI pl)), some (.int fr), some (.int rd), none, none]) rfl rfl rfl rfl ?_
  refine am_g 2 3 [some (.ref 23), some (.int (nI pl)), some (.int fr), some (.int rd), some (.int 0), none] [] (hG σ sr ln Lc μ) rfl ?_
  have lp : ∀ (r o : Nat) (w : Option Value), o + r = 16 → am_R xs LL cd_X7_noteRound (am_X xs LL (d + 1)) 3 [some (.ref 23), some (.int (nI pl)), some (.int fr), some (.int rd), some (.int (nI o)), w] [] (hG (am_up σ 14 (am_it (am_ntS pl fr rd) (σ 14) o)) sr ln Lc μ) none (hG (am_up σ 14 (am_it (am_ntS pl fr rd) (σ 14) 16)) sr ln Lc μ) := by
    intro r
    induction r with
    | zero =>
      intro o w hi
      have hi2 : o = 16 := by omega
      rw [hi2]
      refine am_g 3 (if 16 ≤ (nI 16) then 57 else 10) [some (.ref 23), some (.int (nI pl)), some (.int fr), some (.int rd), some (.int (nI 16)), w] [] (hG (am_up σ 14 (am_it (am_ntS pl fr rd) (σ 14) 16)) sr ln Lc μ) rfl ?_
      rw [if_pos (show 16 ≤ (nI 16) from (am_dle (a := 16) (b := 16) (rfl) (rfl) (by omega) (by omega) (by omega)))]
      exact am_ret2 rfl rfl rfl rfl rfl
    | succ r ih =>
      intro o w hi
      have hi2 : o < 16 := by omega
      refine am_g 3 (if 16 ≤ (nI o) then 57 else 10) [some (.ref 23), some (.int (nI pl)), some (.int fr), some (.int rd), some (.int (nI o)), w] [] (hG (am_up σ 14 (am_it (am_ntS pl fr rd) (σ 14) o)) sr ln Lc μ) rfl ?_
      rw [if_neg (show ¬ 16 ≤ (nI o) from (am_dnle (a := 16) (b := o) (rfl) (rfl) (by omega) (by omega) (by omega)))]
      refine am_g 8 22 [some (.ref 23), some (.int (nI pl)), some (.int fr), some (.int rd), some (.int (nI o)), some (.int (((nI pl) * 16) + (nI o)))] [.int (nI o), .int fr] (hG (am_up σ 14 (am_it (am_ntS pl fr rd) (σ 14) o)) sr ln Lc μ) rfl ?_
      cases e1 : am_hb fr o with
      | false =>
        refine am_call (y := 126) (vs := [.int fr, .int (nI o)]) (rest := []) (v := (some (.int 0))) (h1 := (hG (am_up σ 14 (am_it (am_ntS pl fr rd) (σ 14) o)) sr ln Lc μ)) rfl rfl rfl (sp_X11_hasBit d _ _ _ e1) ?_
        refine am_g 3 3 [some (.ref 23), some (.int (nI pl)), some (.int fr), some (.int rd), some (.int ((nI o) + 1)), some (.int (((nI pl) * 16) + (nI o)))] [] (hG (am_up σ 14 (am_it (am_ntS pl fr rd) (σ 14) o)) sr ln Lc μ) rfl ?_
        rw [nI_up, ← (show am_it (am_ntS pl fr rd) (σ 14) (o + 1) = (am_it (am_ntS pl fr rd) (σ 14) o) from (by rw [am_itS]; unfold am_ntS; rw [e1]; rfl))]
        exact ih (o + 1) _ (by omega)
      | true =>
        refine am_call (y := 126) (vs := [.int fr, .int (nI o)]) (rest := []) (v := (some (.int 1))) (h1 := (hG (am_up σ 14 (am_it (am_ntS pl fr rd) (σ 14) o)) sr ln Lc μ)) rfl rfl rfl (sp_X11_hasBit d _ _ _ e1) ?_
        refine am_g 3 (if (((nI pl) * 16) + (nI o)) < 0 then 51 else 33) [some (.ref 23), some (.int (nI pl)), some (.int fr), some (.int rd), some (.int (nI o)), some (.int (((nI pl) * 16) + (nI o)))] [] (hG (am_up σ 14 (am_it (am_ntS pl fr rd) (σ 14) o)) sr ln Lc μ) rfl ?_
        rw [if_neg (show ¬ (((nI pl) * 16) + (nI o)) < 0 from (am_dnlt (a := ((16 * pl) + o)) (b := 0) (show (((nI pl) * (nI 16)) + (nI o)) = nI ((16 * pl) + o) from by first | (simp only [nI_mul2, nI_add]; done) | (simp only [nI_mul2, nI_add]; exact congrArg nI (by omega))) (rfl) (by omega) (by omega) (by omega)))]
        refine am_g 5 (if 320 ≤ (((nI pl) * 16) + (nI o)) then 51 else 43) [some (.ref 23), some (.int (nI pl)), some (.int fr), some (.int rd), some (.int (nI o)), some (.int (((nI pl) * 16) + (nI o)))] [] (hG (am_up σ 14 (am_it (am_ntS pl fr rd) (σ 14) o)) sr ln Lc μ) rfl ?_
        rw [if_neg (show ¬ 320 ≤ (((nI pl) * 16) + (nI o)) from (am_dnle (a := 320) (b := ((16 * pl) + o)) (rfl) (show (((nI pl) * (nI 16)) + (nI o)) = nI ((16 * pl) + o) from by first | (simp only [nI_mul2, nI_add]; done) | (simp only [nI_mul2, nI_add]; exact congrArg nI (by omega))) (by omega) (by omega) (by omega)))]
        refine am_g 4 50 [some (.ref 23), some (.int (nI pl)), some (.int fr), some (.int rd), some (.int (nI o)), some (.int (((nI pl) * 16) + (nI o)))] [.int rd, .int (((nI pl) * 16) + (nI o)), .ref 26] (hG (am_up σ 14 (am_it (am_ntS pl fr rd) (σ 14) o)) sr ln Lc μ) rfl ?_
        refine am_iastR (n := 320) (f := (am_it (am_ntS pl fr rd) (σ 14) o)) (k := ((16 * pl) + o)) (h1 := (hG (am_up σ 14 (upd (am_it (am_ntS pl fr rd) (σ 14) o) ((16 * pl) + o) rd)) sr ln Lc μ)) rfl rfl (show (((nI pl) * (nI 16)) + (nI o)) = nI ((16 * pl) + o) from by first | (simp only [nI_mul2, nI_add]; done) | (simp only [nI_mul2, nI_add]; exact congrArg nI (by omega))) (by omega) (by decide) rfl ?_
        refine am_g 2 3 [some (.ref 23), some (.int (nI pl)), some (.int fr), some (.int rd), some (.int ((nI o) + 1)), some (.int (((nI pl) * 16) + (nI o)))] [] (hG (am_up σ 14 (upd (am_it (am_ntS pl fr rd) (σ 14) o) ((16 * pl) + o) rd)) sr ln Lc μ) rfl ?_
        rw [nI_up, ← (show am_it (am_ntS pl fr rd) (σ 14) (o + 1) = (upd (am_it (am_ntS pl fr rd) (σ 14) o) ((16 * pl) + o) rd) from (by rw [am_itS]; unfold am_ntS; rw [e1]; rfl))]
        exact ih (o + 1) _ (by omega)
  exact lp 16 0 none (by omega)
theorem sp_X7_noteRound_0_hi (d : Nat) (pl : Nat) (fr rd : Int32) (hp : 20 ≤ pl) (hp2 : pl < 68) : am_X xs LL (d + 2) 55 [.ref 23, .int (nI pl), .int fr, .int rd] (hG σ sr ln Lc μ) none (hG σ sr ln Lc μ) := by
  refine am_XR (d := d + 1) (C := cd_X7_noteRound) (L := [some (.ref 23), some (.int (nI pl)), some (.int fr), some (.int rd), none, none]) rfl rfl rfl rfl ?_
  refine am_g 2 3 [some (.ref 23), some (.int (nI pl)), some (.int fr), some (.int rd), some (.int 0), none] [] (hG σ sr ln Lc μ) rfl ?_
  have lp : ∀ (r o : Nat) (w : Option Value), o + r = 16 → am_R xs LL cd_X7_noteRound (am_X xs LL (d + 1)) 3 [some (.ref 23), some (.int (nI pl)), some (.int fr), some (.int rd), some (.int (nI o)), w] [] (hG σ sr ln Lc μ) none (hG σ sr ln Lc μ) := by
    intro r
    induction r with
    | zero =>
      intro o w hi
      have hi2 : o = 16 := by omega
      rw [hi2]
      refine am_g 3 (if 16 ≤ (nI 16) then 57 else 10) [some (.ref 23), some (.int (nI pl)), some (.int fr), some (.int rd), some (.int (nI 16)), w] [] (hG σ sr ln Lc μ) rfl ?_
      rw [if_pos (show 16 ≤ (nI 16) from (am_dle (a := 16) (b := 16) (rfl) (rfl) (by omega) (by omega) (by omega)))]
      exact am_ret2 rfl rfl rfl rfl rfl
    | succ r ih =>
      intro o w hi
      have hi2 : o < 16 := by omega
      refine am_g 3 (if 16 ≤ (nI o) then 57 else 10) [some (.ref 23), some (.int (nI pl)), some (.int fr), some (.int rd), some (.int (nI o)), w] [] (hG σ sr ln Lc μ) rfl ?_
      rw [if_neg (show ¬ 16 ≤ (nI o) from (am_dnle (a := 16) (b := o) (rfl) (rfl) (by omega) (by omega) (by omega)))]
      refine am_g 8 22 [some (.ref 23), some (.int (nI pl)), some (.int fr), some (.int rd), some (.int (nI o)), some (.int (((nI pl) * 16) + (nI o)))] [.int (nI o), .int fr] (hG σ sr ln Lc μ) rfl ?_
      cases e1 : am_hb fr o with
      | false =>
        refine am_call (y := 126) (vs := [.int fr, .int (nI o)]) (rest := []) (v := (some (.int 0))) (h1 := (hG σ sr ln Lc μ)) rfl rfl rfl (sp_X11_hasBit d _ _ _ e1) ?_
        refine am_g 3 3 [some (.ref 23), some (.int (nI pl)), some (.int fr), some (.int rd), some (.int ((nI o) + 1)), some (.int (((nI pl) * 16) + (nI o)))] [] (hG σ sr ln Lc μ) rfl ?_
        rw [nI_up]
        exact ih (o + 1) _ (by omega)
      | true =>
        refine am_call (y := 126) (vs := [.int fr, .int (nI o)]) (rest := []) (v := (some (.int 1))) (h1 := (hG σ sr ln Lc μ)) rfl rfl rfl (sp_X11_hasBit d _ _ _ e1) ?_
        refine am_g 3 (if (((nI pl) * 16) + (nI o)) < 0 then 51 else 33) [some (.ref 23), some (.int (nI pl)), some (.int fr), some (.int rd), some (.int (nI o)), some (.int (((nI pl) * 16) + (nI o)))] [] (hG σ sr ln Lc μ) rfl ?_
        rw [if_neg (show ¬ (((nI pl) * 16) + (nI o)) < 0 from (am_dnlt (a := ((16 * pl) + o)) (b := 0) (show (((nI pl) * (nI 16)) + (nI o)) = nI ((16 * pl) + o) from by first | (simp only [nI_mul2, nI_add]; done) | (simp only [nI_mul2, nI_add]; exact congrArg nI (by omega))) (rfl) (by omega) (by omega) (by omega)))]
        refine am_g 5 (if 320 ≤ (((nI pl) * 16) + (nI o)) then 51 else 43) [some (.ref 23), some (.int (nI pl)), some (.int fr), some (.int rd), some (.int (nI o)), some (.int (((nI pl) * 16) + (nI o)))] [] (hG σ sr ln Lc μ) rfl ?_
        rw [if_pos (show 320 ≤ (((nI pl) * 16) + (nI o)) from (am_dle (a := 320) (b := ((16 * pl) + o)) (rfl) (show (((nI pl) * (nI 16)) + (nI o)) = nI ((16 * pl) + o) from by first | (simp only [nI_mul2, nI_add]; done) | (simp only [nI_mul2, nI_add]; exact congrArg nI (by omega))) (by omega) (by omega) (by omega)))]
        refine am_g 2 3 [some (.ref 23), some (.int (nI pl)), some (.int fr), some (.int rd), some (.int ((nI o) + 1)), some (.int (((nI pl) * 16) + (nI o)))] [] (hG σ sr ln Lc μ) rfl ?_
        rw [nI_up]
        exact ih (o + 1) _ (by omega)
  exact lp 16 0 none (by omega)
theorem sp_X7_noteRound_0 (d pl : Nat) (fr rd : Int32) (hp2 : pl < 68) : am_X xs LL (d + 2) 55 [.ref 23, .int (nI pl), .int fr, .int rd] (hG σ sr ln Lc μ) none (hG (am_up σ 14 (am_note pl fr rd (σ 14))) sr ln Lc μ) := by
  unfold am_note
  by_cases h : pl < 20
  · rw [if_pos h]; exact sp_X7_noteRound_0_lo d pl fr rd h hp2
  · rw [if_neg h, am_up_id]; exact sp_X7_noteRound_0_hi d pl fr rd (by omega) hp2
theorem sp_X7_settle_0 (d : Nat) (rd : Int32) : am_X xs LL (d + 3) 54 [.ref 23, .int rd] (hG σ sr ln Lc μ) (some (.int (am_it (am_seS (σ 13) rd) (0, σ 12, σ 14) 68).1)) (hG (am_us (am_up (am_up σ 12 (am_it (am_seS (σ 13) rd) (0, σ 12, σ 14) 68).2.1) 14 (am_it (am_seS (σ 13) rd) (0, σ 12, σ 14) 68).2.2) 11 (if (am_it (am_seS (σ 13) rd) (0, σ 12, σ 14) 68).1 = 0 then σ 11 0 else rd)) sr ln Lc μ) := by
  refine am_XR (d := d + 2) (C := cd_X7_settle) (L := [some (.ref 23), some (.int rd), none, none, none]) rfl rfl rfl rfl ?_
  refine am_g 4 4 [some (.ref 23), some (.int rd), some (.int 0), some (.int 0), none] [] (hG σ sr ln Lc μ) rfl ?_
  have lp : ∀ (r p : Nat) (w : Option Value), p + r = 68 → am_R xs LL cd_X7_settle (am_X xs LL (d + 2)) 4 [some (.ref 23), some (.int rd), some (.int (am_it (am_seS (σ 13) rd) (0, σ 12, σ 14) p).1), some (.int (nI p)), w] [] (hG (am_up (am_up σ 12 (am_it (am_seS (σ 13) rd) (0, σ 12, σ 14) p).2.1) 14 (am_it (am_seS (σ 13) rd) (0, σ 12, σ 14) p).2.2) sr ln Lc μ) (some (.int (am_it (am_seS (σ 13) rd) (0, σ 12, σ 14) 68).1)) (hG (am_us (am_up (am_up σ 12 (am_it (am_seS (σ 13) rd) (0, σ 12, σ 14) 68).2.1) 14 (am_it (am_seS (σ 13) rd) (0, σ 12, σ 14) 68).2.2) 11 (if (am_it (am_seS (σ 13) rd) (0, σ 12, σ 14) 68).1 = 0 then σ 11 0 else rd)) sr ln Lc μ) := by
    intro r
    induction r with
    | zero =>
      intro p w hi
      have hi2 : p = 68 := by omega
      rw [hi2]
      refine am_g 5 (if 68 ≤ (nI 68) then 71 else 13) [some (.ref 23), some (.int rd), some (.int (am_it (am_seS (σ 13) rd) (0, σ 12, σ 14) 68).1), some (.int (nI 68)), w] [] (hG (am_up (am_up σ 12 (am_it (am_seS (σ 13) rd) (0, σ 12, σ 14) 68).2.1) 14 (am_it (am_seS (σ 13) rd) (0, σ 12, σ 14) 68).2.2) sr ln Lc μ) rfl ?_
      rw [if_pos (show 68 ≤ (nI 68) from (am_dle (a := 68) (b := 68) (rfl) (rfl) (by omega) (by omega) (by omega)))]
      refine am_g 2 (if (am_it (am_seS (σ 13) rd) (0, σ 12, σ 14) 68).1 = 0 then 80 else 75) [some (.ref 23), some (.int rd), some (.int (am_it (am_seS (σ 13) rd) (0, σ 12, σ 14) 68).1), some (.int (nI 68)), w] [] (hG (am_up (am_up σ 12 (am_it (am_seS (σ 13) rd) (0, σ 12, σ 14) 68).2.1) 14 (am_it (am_seS (σ 13) rd) (0, σ 12, σ 14) 68).2.2) sr ln Lc μ) rfl (am_brR (fun c1 => ?_) (fun c1 => ?_))
      · skip
        refine am_g 1 81 [some (.ref 23), some (.int rd), some (.int (am_it (am_seS (σ 13) rd) (0, σ 12, σ 14) 68).1), some (.int (nI 68)), w] [.int (am_it (am_seS (σ 13) rd) (0, σ 12, σ 14) 68).1] (hG (am_up (am_up σ 12 (am_it (am_seS (σ 13) rd) (0, σ 12, σ 14) 68).2.1) 14 (am_it (am_seS (σ 13) rd) (0, σ 12, σ 14) 68).2.2) sr ln Lc μ) rfl ?_
        rw [c1]; exact am_ret2 rfl rfl rfl rfl (by rw [if_pos rfl]; rfl)
      · skip
        refine am_g 4 81 [some (.ref 23), some (.int rd), some (.int (am_it (am_seS (σ 13) rd) (0, σ 12, σ 14) 68).1), some (.int (nI 68)), w] [.int (am_it (am_seS (σ 13) rd) (0, σ 12, σ 14) 68).1] (hG (am_us (am_up (am_up σ 12 (am_it (am_seS (σ 13) rd) (0, σ 12, σ 14) 68).2.1) 14 (am_it (am_seS (σ 13) rd) (0, σ 12, σ 14) 68).2.2) 11 rd) sr ln Lc μ) rfl ?_
        rw [(am_seS_b _ _ _ _ _).resolve_left c1]; exact am_ret2 rfl rfl rfl rfl (by rw [if_neg (by decide)])
    | succ r ih =>
      intro p w hi
      have hi2 : p < 68 := by omega
      refine am_g 5 (if 68 ≤ (nI p) then 71 else 13) [some (.ref 23), some (.int rd), some (.int (am_it (am_seS (σ 13) rd) (0, σ 12, σ 14) p).1), some (.int (nI p)), w] [] (hG (am_up (am_up σ 12 (am_it (am_seS (σ 13) rd) (0, σ 12, σ 14) p).2.1) 14 (am_it (am_seS (σ 13) rd) (0, σ 12, σ 14) p).2.2) sr ln Lc μ) rfl ?_
      rw [if_neg (show ¬ 68 ≤ (nI p) from (am_dnle (a := 68) (b := p) (rfl) (rfl) (by omega) (by omega) (by omega)))]
      refine am_g 5 (if 68 ≤ (nI p) then 71 else 22) [some (.ref 23), some (.int rd), some (.int (am_it (am_seS (σ 13) rd) (0, σ 12, σ 14) p).1), some (.int (nI p)), w] [] (hG (am_up (am_up σ 12 (am_it (am_seS (σ 13) rd) (0, σ 12, σ 14) p).2.1) 14 (am_it (am_seS (σ 13) rd) (0, σ 12, σ 14) p).2.2) sr ln Lc μ) rfl ?_
      rw [if_neg (show ¬ 68 ≤ (nI p) from (am_dnle (a := 68) (b := p) (rfl) (rfl) (by omega) (by omega) (by omega)))]
      refine am_g 3 27 [some (.ref 23), some (.int rd), some (.int (am_it (am_seS (σ 13) rd) (0, σ 12, σ 14) p).1), some (.int (nI p)), w] [.int (nI p), .ref 25] (hG (am_up (am_up σ 12 (am_it (am_seS (σ 13) rd) (0, σ 12, σ 14) p).2.1) 14 (am_it (am_seS (σ 13) rd) (0, σ 12, σ 14) p).2.2) sr ln Lc μ) rfl ?_
      refine am_ialdR (n := 68) (f := (σ 13)) (k := p) rfl rfl (rfl) (by omega) (by decide) ?_
      refine am_g 3 33 [some (.ref 23), some (.int rd), some (.int (am_it (am_seS (σ 13) rd) (0, σ 12, σ 14) p).1), some (.int (nI p)), w] [.int (nI p), .ref 24, .int (σ 13 p)] (hG (am_up (am_up σ 12 (am_it (am_seS (σ 13) rd) (0, σ 12, σ 14) p).2.1) 14 (am_it (am_seS (σ 13) rd) (0, σ 12, σ 14) p).2.2) sr ln Lc μ) rfl ?_
      refine am_ialdR (n := 68) (f := (am_it (am_seS (σ 13) rd) (0, σ 12, σ 14) p).2.1) (k := p) rfl rfl (rfl) (by omega) (by decide) ?_
      refine am_g 6 (if ((σ 13 p) &&& (((am_it (am_seS (σ 13) rd) (0, σ 12, σ 14) p).2.1 p) ^^^ (-1))) = 0 then 65 else 44) [some (.ref 23), some (.int rd), some (.int (am_it (am_seS (σ 13) rd) (0, σ 12, σ 14) p).1), some (.int (nI p)), some (.int ((σ 13 p) &&& (((am_it (am_seS (σ 13) rd) (0, σ 12, σ 14) p).2.1 p) ^^^ (-1))))] [] (hG (am_up (am_up σ 12 (am_it (am_seS (σ 13) rd) (0, σ 12, σ 14) p).2.1) 14 (am_it (am_seS (σ 13) rd) (0, σ 12, σ 14) p).2.2) sr ln Lc μ) rfl (am_brR (fun c2 => ?_) (fun c2 => ?_))
      · skip
        refine am_g 2 4 [some (.ref 23), some (.int rd), some (.int (am_it (am_seS (σ 13) rd) (0, σ 12, σ 14) p).1), some (.int ((nI p) + 1)), some (.int ((σ 13 p) &&& (((am_it (am_seS (σ 13) rd) (0, σ 12, σ 14) p).2.1 p) ^^^ (-1))))] [] (hG (am_up (am_up σ 12 (am_it (am_seS (σ 13) rd) (0, σ 12, σ 14) p).2.1) 14 (am_it (am_seS (σ 13) rd) (0, σ 12, σ 14) p).2.2) sr ln Lc μ) rfl ?_
        rw [nI_up, ← (show (am_it (am_seS (σ 13) rd) (0, σ 12, σ 14) (p + 1)) = (am_it (am_seS (σ 13) rd) (0, σ 12, σ 14) p) from (by rw [am_itS]; exact if_pos c2))]
        exact ih (p + 1) _ (by omega)
      · skip
        refine am_g 4 50 [some (.ref 23), some (.int rd), some (.int (am_it (am_seS (σ 13) rd) (0, σ 12, σ 14) p).1), some (.int (nI p)), some (.int ((σ 13 p) &&& (((am_it (am_seS (σ 13) rd) (0, σ 12, σ 14) p).2.1 p) ^^^ (-1))))] [.int (nI p), .ref 24, .int (nI p), .ref 24] (hG (am_up (am_up σ 12 (am_it (am_seS (σ 13) rd) (0, σ 12, σ 14) p).2.1) 14 (am_it (am_seS (σ 13) rd) (0, σ 12, σ 14) p).2.2) sr ln Lc μ) rfl ?_
        refine am_ialdR (n := 68) (f := (am_it (am_seS (σ 13) rd) (0, σ 12, σ 14) p).2.1) (k := p) rfl rfl (rfl) (by omega) (by decide) ?_
        refine am_g 2 54 [some (.ref 23), some (.int rd), some (.int (am_it (am_seS (σ 13) rd) (0, σ 12, σ 14) p).1), some (.int (nI p)), some (.int ((σ 13 p) &&& (((am_it (am_seS (σ 13) rd) (0, σ 12, σ 14) p).2.1 p) ^^^ (-1))))] [.int (((am_it (am_seS (σ 13) rd) (0, σ 12, σ 14) p).2.1 p) ||| ((σ 13 p) &&& (((am_it (am_seS (σ 13) rd) (0, σ 12, σ 14) p).2.1 p) ^^^ (-1)))), .int (nI p), .ref 24] (hG (am_up (am_up σ 12 (am_it (am_seS (σ 13) rd) (0, σ 12, σ 14) p).2.1) 14 (am_it (am_seS (σ 13) rd) (0, σ 12, σ 14) p).2.2) sr ln Lc μ) rfl ?_
        refine am_iastR (n := 68) (f := (am_it (am_seS (σ 13) rd) (0, σ 12, σ 14) p).2.1) (k := p) (h1 := (hG (am_up (am_up σ 14 (am_it (am_seS (σ 13) rd) (0, σ 12, σ 14) p).2.2) 12 (upd (am_it (am_seS (σ 13) rd) (0, σ 12, σ 14) p).2.1 p (((am_it (am_seS (σ 13) rd) (0, σ 12, σ 14) p).2.1 p) ||| ((σ 13 p) &&& (((am_it (am_seS (σ 13) rd) (0, σ 12, σ 14) p).2.1 p) ^^^ (-1)))))) sr ln Lc μ)) rfl rfl (rfl) (by omega) (by decide) rfl ?_
        refine am_g 4 60 [some (.ref 23), some (.int rd), some (.int (am_it (am_seS (σ 13) rd) (0, σ 12, σ 14) p).1), some (.int (nI p)), some (.int ((σ 13 p) &&& (((am_it (am_seS (σ 13) rd) (0, σ 12, σ 14) p).2.1 p) ^^^ (-1))))] [.int rd, .int ((σ 13 p) &&& (((am_it (am_seS (σ 13) rd) (0, σ 12, σ 14) p).2.1 p) ^^^ (-1))), .int (nI p), .ref 23] (hG (am_up (am_up σ 14 (am_it (am_seS (σ 13) rd) (0, σ 12, σ 14) p).2.2) 12 (upd (am_it (am_seS (σ 13) rd) (0, σ 12, σ 14) p).2.1 p (((am_it (am_seS (σ 13) rd) (0, σ 12, σ 14) p).2.1 p) ||| ((σ 13 p) &&& (((am_it (am_seS (σ 13) rd) (0, σ 12, σ 14) p).2.1 p) ^^^ (-1)))))) sr ln Lc μ) rfl ?_
        refine am_call (y := 55) (vs := [.ref 23, .int (nI p), .int ((σ 13 p) &&& (((am_it (am_seS (σ 13) rd) (0, σ 12, σ 14) p).2.1 p) ^^^ (-1))), .int rd]) (rest := []) (v := none) (h1 := (hG (am_up (am_up σ 12 (upd (am_it (am_seS (σ 13) rd) (0, σ 12, σ 14) p).2.1 p (((am_it (am_seS (σ 13) rd) (0, σ 12, σ 14) p).2.1 p) ||| ((σ 13 p) &&& (((am_it (am_seS (σ 13) rd) (0, σ 12, σ 14) p).2.1 p) ^^^ (-1)))))) 14 (am_note p ((σ 13 p) &&& (((am_it (am_seS (σ 13) rd) (0, σ 12, σ 14) p).2.1 p) ^^^ (-1))) rd (am_it (am_seS (σ 13) rd) (0, σ 12, σ 14) p).2.2)) sr ln Lc μ)) rfl rfl rfl (sp_X7_noteRound_0 (σ := (am_up (am_up σ 14 (am_it (am_seS (σ 13) rd) (0, σ 12, σ 14) p).2.2) 12 (upd (am_it (am_seS (σ 13) rd) (0, σ 12, σ 14) p).2.1 p (((am_it (am_seS (σ 13) rd) (0, σ 12, σ 14) p).2.1 p) ||| ((σ 13 p) &&& (((am_it (am_seS (σ 13) rd) (0, σ 12, σ 14) p).2.1 p) ^^^ (-1))))))) (μ := μ) d p _ _ (by omega)) ?_
        refine am_g 4 4 [some (.ref 23), some (.int rd), some (.int 1), some (.int ((nI p) + 1)), some (.int ((σ 13 p) &&& (((am_it (am_seS (σ 13) rd) (0, σ 12, σ 14) p).2.1 p) ^^^ (-1))))] [] (hG (am_up (am_up σ 12 (upd (am_it (am_seS (σ 13) rd) (0, σ 12, σ 14) p).2.1 p (((am_it (am_seS (σ 13) rd) (0, σ 12, σ 14) p).2.1 p) ||| ((σ 13 p) &&& (((am_it (am_seS (σ 13) rd) (0, σ 12, σ 14) p).2.1 p) ^^^ (-1)))))) 14 (am_note p ((σ 13 p) &&& (((am_it (am_seS (σ 13) rd) (0, σ 12, σ 14) p).2.1 p) ^^^ (-1))) rd (am_it (am_seS (σ 13) rd) (0, σ 12, σ 14) p).2.2)) sr ln Lc μ) rfl ?_
        have q : (am_it (am_seS (σ 13) rd) (0, σ 12, σ 14) (p + 1)) = (1, (upd (am_it (am_seS (σ 13) rd) (0, σ 12, σ 14) p).2.1 p (((am_it (am_seS (σ 13) rd) (0, σ 12, σ 14) p).2.1 p) ||| ((σ 13 p) &&& (((am_it (am_seS (σ 13) rd) (0, σ 12, σ 14) p).2.1 p) ^^^ (-1))))), (am_note p ((σ 13 p) &&& (((am_it (am_seS (σ 13) rd) (0, σ 12, σ 14) p).2.1 p) ^^^ (-1))) rd (am_it (am_seS (σ 13) rd) (0, σ 12, σ 14) p).2.2)) := by rw [am_itS]; exact if_neg c2
        have k := ih (p + 1) (some (.int ((σ 13 p) &&& (((am_it (am_seS (σ 13) rd) (0, σ 12, σ 14) p).2.1 p) ^^^ (-1))))) (by omega)
        rw [q, ← nI_up] at k
        exact k
  exact lp 68 0 none (by omega)
theorem sp_X7_noteRound_1_lo (d : Nat) (pl : Nat) (fr rd : Int32) (hp : pl < 20) (hp2 : pl < 68) : am_X xs LL (d + 2) 55 [.ref 27, .int (nI pl), .int fr, .int rd] (hG σ sr ln Lc μ) none (hG (am_up σ 24 (am_it (am_ntS pl fr rd) (σ 24) 16)) sr ln Lc μ) := by
  refine am_XR (d := d + 1) (C := cd_X7_noteRound) (L := [some (.ref 27), some (.int (nI pl)), some (.int fr), some (.int rd), none, none]) rfl rfl rfl rfl ?_
  refine am_g 2 3 [some (.ref 27), some (.int (nI pl)), some (.int fr), some (.int rd), some (.int 0), none] [] (hG σ sr ln Lc μ) rfl ?_
  have lp : ∀ (r o : Nat) (w : Option Value), o + r = 16 → am_R xs LL cd_X7_noteRound (am_X xs LL (d + 1)) 3 [some (.ref 27), some (.int (nI pl)), some (.int fr), some (.int rd), some (.int (nI o)), w] [] (hG (am_up σ 24 (am_it (am_ntS pl fr rd) (σ 24) o)) sr ln Lc μ) none (hG (am_up σ 24 (am_it (am_ntS pl fr rd) (σ 24) 16)) sr ln Lc μ) := by
    intro r
    induction r with
    | zero =>
      intro o w hi
      have hi2 : o = 16 := by omega
      rw [hi2]
      refine am_g 3 (if 16 ≤ (nI 16) then 57 else 10) [some (.ref 27), some (.int (nI pl)), some (.int fr), some (.int rd), some (.int (nI 16)), w] [] (hG (am_up σ 24 (am_it (am_ntS pl fr rd) (σ 24) 16)) sr ln Lc μ) rfl ?_
      rw [if_pos (show 16 ≤ (nI 16) from (am_dle (a := 16) (b := 16) (rfl) (rfl) (by omega) (by omega) (by omega)))]
      exact am_ret2 rfl rfl rfl rfl rfl
    | succ r ih =>
      intro o w hi
      have hi2 : o < 16 := by omega
      refine am_g 3 (if 16 ≤ (nI o) then 57 else 10) [some (.ref 27), some (.int (nI pl)), some (.int fr), some (.int rd), some (.int (nI o)), w] [] (hG (am_up σ 24 (am_it (am_ntS pl fr rd) (σ 24) o)) sr ln Lc μ) rfl ?_
      rw [if_neg (show ¬ 16 ≤ (nI o) from (am_dnle (a := 16) (b := o) (rfl) (rfl) (by omega) (by omega) (by omega)))]
      refine am_g 8 22 [some (.ref 27), some (.int (nI pl)), some (.int fr), some (.int rd), some (.int (nI o)), some (.int (((nI pl) * 16) + (nI o)))] [.int (nI o), .int fr] (hG (am_up σ 24 (am_it (am_ntS pl fr rd) (σ 24) o)) sr ln Lc μ) rfl ?_
      cases e1 : am_hb fr o with
      | false =>
        refine am_call (y := 126) (vs := [.int fr, .int (nI o)]) (rest := []) (v := (some (.int 0))) (h1 := (hG (am_up σ 24 (am_it (am_ntS pl fr rd) (σ 24) o)) sr ln Lc μ)) rfl rfl rfl (sp_X11_hasBit d _ _ _ e1) ?_
        refine am_g 3 3 [some (.ref 27), some (.int (nI pl)), some (.int fr), some (.int rd), some (.int ((nI o) + 1)), some (.int (((nI pl) * 16) + (nI o)))] [] (hG (am_up σ 24 (am_it (am_ntS pl fr rd) (σ 24) o)) sr ln Lc μ) rfl ?_
        rw [nI_up, ← (show am_it (am_ntS pl fr rd) (σ 24) (o + 1) = (am_it (am_ntS pl fr rd) (σ 24) o) from (by rw [am_itS]; unfold am_ntS; rw [e1]; rfl))]
        exact ih (o + 1) _ (by omega)
      | true =>
        refine am_call (y := 126) (vs := [.int fr, .int (nI o)]) (rest := []) (v := (some (.int 1))) (h1 := (hG (am_up σ 24 (am_it (am_ntS pl fr rd) (σ 24) o)) sr ln Lc μ)) rfl rfl rfl (sp_X11_hasBit d _ _ _ e1) ?_
        refine am_g 3 (if (((nI pl) * 16) + (nI o)) < 0 then 51 else 33) [some (.ref 27), some (.int (nI pl)), some (.int fr), some (.int rd), some (.int (nI o)), some (.int (((nI pl) * 16) + (nI o)))] [] (hG (am_up σ 24 (am_it (am_ntS pl fr rd) (σ 24) o)) sr ln Lc μ) rfl ?_
        rw [if_neg (show ¬ (((nI pl) * 16) + (nI o)) < 0 from (am_dnlt (a := ((16 * pl) + o)) (b := 0) (show (((nI pl) * (nI 16)) + (nI o)) = nI ((16 * pl) + o) from by first | (simp only [nI_mul2, nI_add]; done) | (simp only [nI_mul2, nI_add]; exact congrArg nI (by omega))) (rfl) (by omega) (by omega) (by omega)))]
        refine am_g 5 (if 320 ≤ (((nI pl) * 16) + (nI o)) then 51 else 43) [some (.ref 27), some (.int (nI pl)), some (.int fr), some (.int rd), some (.int (nI o)), some (.int (((nI pl) * 16) + (nI o)))] [] (hG (am_up σ 24 (am_it (am_ntS pl fr rd) (σ 24) o)) sr ln Lc μ) rfl ?_
        rw [if_neg (show ¬ 320 ≤ (((nI pl) * 16) + (nI o)) from (am_dnle (a := 320) (b := ((16 * pl) + o)) (rfl) (show (((nI pl) * (nI 16)) + (nI o)) = nI ((16 * pl) + o) from by first | (simp only [nI_mul2, nI_add]; done) | (simp only [nI_mul2, nI_add]; exact congrArg nI (by omega))) (by omega) (by omega) (by omega)))]
        refine am_g 4 50 [some (.ref 27), some (.int (nI pl)), some (.int fr), some (.int rd), some (.int (nI o)), some (.int (((nI pl) * 16) + (nI o)))] [.int rd, .int (((nI pl) * 16) + (nI o)), .ref 30] (hG (am_up σ 24 (am_it (am_ntS pl fr rd) (σ 24) o)) sr ln Lc μ) rfl ?_
        refine am_iastR (n := 320) (f := (am_it (am_ntS pl fr rd) (σ 24) o)) (k := ((16 * pl) + o)) (h1 := (hG (am_up σ 24 (upd (am_it (am_ntS pl fr rd) (σ 24) o) ((16 * pl) + o) rd)) sr ln Lc μ)) rfl rfl (show (((nI pl) * (nI 16)) + (nI o)) = nI ((16 * pl) + o) from by first | (simp only [nI_mul2, nI_add]; done) | (simp only [nI_mul2, nI_add]; exact congrArg nI (by omega))) (by omega) (by decide) rfl ?_
        refine am_g 2 3 [some (.ref 27), some (.int (nI pl)), some (.int fr), some (.int rd), some (.int ((nI o) + 1)), some (.int (((nI pl) * 16) + (nI o)))] [] (hG (am_up σ 24 (upd (am_it (am_ntS pl fr rd) (σ 24) o) ((16 * pl) + o) rd)) sr ln Lc μ) rfl ?_
        rw [nI_up, ← (show am_it (am_ntS pl fr rd) (σ 24) (o + 1) = (upd (am_it (am_ntS pl fr rd) (σ 24) o) ((16 * pl) + o) rd) from (by rw [am_itS]; unfold am_ntS; rw [e1]; rfl))]
        exact ih (o + 1) _ (by omega)
  exact lp 16 0 none (by omega)
theorem sp_X7_noteRound_1_hi (d : Nat) (pl : Nat) (fr rd : Int32) (hp : 20 ≤ pl) (hp2 : pl < 68) : am_X xs LL (d + 2) 55 [.ref 27, .int (nI pl), .int fr, .int rd] (hG σ sr ln Lc μ) none (hG σ sr ln Lc μ) := by
  refine am_XR (d := d + 1) (C := cd_X7_noteRound) (L := [some (.ref 27), some (.int (nI pl)), some (.int fr), some (.int rd), none, none]) rfl rfl rfl rfl ?_
  refine am_g 2 3 [some (.ref 27), some (.int (nI pl)), some (.int fr), some (.int rd), some (.int 0), none] [] (hG σ sr ln Lc μ) rfl ?_
  have lp : ∀ (r o : Nat) (w : Option Value), o + r = 16 → am_R xs LL cd_X7_noteRound (am_X xs LL (d + 1)) 3 [some (.ref 27), some (.int (nI pl)), some (.int fr), some (.int rd), some (.int (nI o)), w] [] (hG σ sr ln Lc μ) none (hG σ sr ln Lc μ) := by
    intro r
    induction r with
    | zero =>
      intro o w hi
      have hi2 : o = 16 := by omega
      rw [hi2]
      refine am_g 3 (if 16 ≤ (nI 16) then 57 else 10) [some (.ref 27), some (.int (nI pl)), some (.int fr), some (.int rd), some (.int (nI 16)), w] [] (hG σ sr ln Lc μ) rfl ?_
      rw [if_pos (show 16 ≤ (nI 16) from (am_dle (a := 16) (b := 16) (rfl) (rfl) (by omega) (by omega) (by omega)))]
      exact am_ret2 rfl rfl rfl rfl rfl
    | succ r ih =>
      intro o w hi
      have hi2 : o < 16 := by omega
      refine am_g 3 (if 16 ≤ (nI o) then 57 else 10) [some (.ref 27), some (.int (nI pl)), some (.int fr), some (.int rd), some (.int (nI o)), w] [] (hG σ sr ln Lc μ) rfl ?_
      rw [if_neg (show ¬ 16 ≤ (nI o) from (am_dnle (a := 16) (b := o) (rfl) (rfl) (by omega) (by omega) (by omega)))]
      refine am_g 8 22 [some (.ref 27), some (.int (nI pl)), some (.int fr), some (.int rd), some (.int (nI o)), some (.int (((nI pl) * 16) + (nI o)))] [.int (nI o), .int fr] (hG σ sr ln Lc μ) rfl ?_
      cases e1 : am_hb fr o with
      | false =>
        refine am_call (y := 126) (vs := [.int fr, .int (nI o)]) (rest := []) (v := (some (.int 0))) (h1 := (hG σ sr ln Lc μ)) rfl rfl rfl (sp_X11_hasBit d _ _ _ e1) ?_
        refine am_g 3 3 [some (.ref 27), some (.int (nI pl)), some (.int fr), some (.int rd), some (.int ((nI o) + 1)), some (.int (((nI pl) * 16) + (nI o)))] [] (hG σ sr ln Lc μ) rfl ?_
        rw [nI_up]
        exact ih (o + 1) _ (by omega)
      | true =>
        refine am_call (y := 126) (vs := [.int fr, .int (nI o)]) (rest := []) (v := (some (.int 1))) (h1 := (hG σ sr ln Lc μ)) rfl rfl rfl (sp_X11_hasBit d _ _ _ e1) ?_
        refine am_g 3 (if (((nI pl) * 16) + (nI o)) < 0 then 51 else 33) [some (.ref 27), some (.int (nI pl)), some (.int fr), some (.int rd), some (.int (nI o)), some (.int (((nI pl) * 16) + (nI o)))] [] (hG σ sr ln Lc μ) rfl ?_
        rw [if_neg (show ¬ (((nI pl) * 16) + (nI o)) < 0 from (am_dnlt (a := ((16 * pl) + o)) (b := 0) (show (((nI pl) * (nI 16)) + (nI o)) = nI ((16 * pl) + o) from by first | (simp only [nI_mul2, nI_add]; done) | (simp only [nI_mul2, nI_add]; exact congrArg nI (by omega))) (rfl) (by omega) (by omega) (by omega)))]
        refine am_g 5 (if 320 ≤ (((nI pl) * 16) + (nI o)) then 51 else 43) [some (.ref 27), some (.int (nI pl)), some (.int fr), some (.int rd), some (.int (nI o)), some (.int (((nI pl) * 16) + (nI o)))] [] (hG σ sr ln Lc μ) rfl ?_
        rw [if_pos (show 320 ≤ (((nI pl) * 16) + (nI o)) from (am_dle (a := 320) (b := ((16 * pl) + o)) (rfl) (show (((nI pl) * (nI 16)) + (nI o)) = nI ((16 * pl) + o) from by first | (simp only [nI_mul2, nI_add]; done) | (simp only [nI_mul2, nI_add]; exact congrArg nI (by omega))) (by omega) (by omega) (by omega)))]
        refine am_g 2 3 [some (.ref 27), some (.int (nI pl)), some (.int fr), some (.int rd), some (.int ((nI o) + 1)), some (.int (((nI pl) * 16) + (nI o)))] [] (hG σ sr ln Lc μ) rfl ?_
        rw [nI_up]
        exact ih (o + 1) _ (by omega)
  exact lp 16 0 none (by omega)
theorem sp_X7_noteRound_1 (d pl : Nat) (fr rd : Int32) (hp2 : pl < 68) : am_X xs LL (d + 2) 55 [.ref 27, .int (nI pl), .int fr, .int rd] (hG σ sr ln Lc μ) none (hG (am_up σ 24 (am_note pl fr rd (σ 24))) sr ln Lc μ) := by
  unfold am_note
  by_cases h : pl < 20
  · rw [if_pos h]; exact sp_X7_noteRound_1_lo d pl fr rd h hp2
  · rw [if_neg h, am_up_id]; exact sp_X7_noteRound_1_hi d pl fr rd (by omega) hp2
theorem sp_X7_settle_1 (d : Nat) (rd : Int32) : am_X xs LL (d + 3) 54 [.ref 27, .int rd] (hG σ sr ln Lc μ) (some (.int (am_it (am_seS (σ 23) rd) (0, σ 22, σ 24) 68).1)) (hG (am_us (am_up (am_up σ 22 (am_it (am_seS (σ 23) rd) (0, σ 22, σ 24) 68).2.1) 24 (am_it (am_seS (σ 23) rd) (0, σ 22, σ 24) 68).2.2) 21 (if (am_it (am_seS (σ 23) rd) (0, σ 22, σ 24) 68).1 = 0 then σ 21 0 else rd)) sr ln Lc μ) := by
  refine am_XR (d := d + 2) (C := cd_X7_settle) (L := [some (.ref 27), some (.int rd), none, none, none]) rfl rfl rfl rfl ?_
  refine am_g 4 4 [some (.ref 27), some (.int rd), some (.int 0), some (.int 0), none] [] (hG σ sr ln Lc μ) rfl ?_
  have lp : ∀ (r p : Nat) (w : Option Value), p + r = 68 → am_R xs LL cd_X7_settle (am_X xs LL (d + 2)) 4 [some (.ref 27), some (.int rd), some (.int (am_it (am_seS (σ 23) rd) (0, σ 22, σ 24) p).1), some (.int (nI p)), w] [] (hG (am_up (am_up σ 22 (am_it (am_seS (σ 23) rd) (0, σ 22, σ 24) p).2.1) 24 (am_it (am_seS (σ 23) rd) (0, σ 22, σ 24) p).2.2) sr ln Lc μ) (some (.int (am_it (am_seS (σ 23) rd) (0, σ 22, σ 24) 68).1)) (hG (am_us (am_up (am_up σ 22 (am_it (am_seS (σ 23) rd) (0, σ 22, σ 24) 68).2.1) 24 (am_it (am_seS (σ 23) rd) (0, σ 22, σ 24) 68).2.2) 21 (if (am_it (am_seS (σ 23) rd) (0, σ 22, σ 24) 68).1 = 0 then σ 21 0 else rd)) sr ln Lc μ) := by
    intro r
    induction r with
    | zero =>
      intro p w hi
      have hi2 : p = 68 := by omega
      rw [hi2]
      refine am_g 5 (if 68 ≤ (nI 68) then 71 else 13) [some (.ref 27), some (.int rd), some (.int (am_it (am_seS (σ 23) rd) (0, σ 22, σ 24) 68).1), some (.int (nI 68)), w] [] (hG (am_up (am_up σ 22 (am_it (am_seS (σ 23) rd) (0, σ 22, σ 24) 68).2.1) 24 (am_it (am_seS (σ 23) rd) (0, σ 22, σ 24) 68).2.2) sr ln Lc μ) rfl ?_
      rw [if_pos (show 68 ≤ (nI 68) from (am_dle (a := 68) (b := 68) (rfl) (rfl) (by omega) (by omega) (by omega)))]
      refine am_g 2 (if (am_it (am_seS (σ 23) rd) (0, σ 22, σ 24) 68).1 = 0 then 80 else 75) [some (.ref 27), some (.int rd), some (.int (am_it (am_seS (σ 23) rd) (0, σ 22, σ 24) 68).1), some (.int (nI 68)), w] [] (hG (am_up (am_up σ 22 (am_it (am_seS (σ 23) rd) (0, σ 22, σ 24) 68).2.1) 24 (am_it (am_seS (σ 23) rd) (0, σ 22, σ 24) 68).2.2) sr ln Lc μ) rfl (am_brR (fun c1 => ?_) (fun c1 => ?_))
      · skip
        refine am_g 1 81 [some (.ref 27), some (.int rd), some (.int (am_it (am_seS (σ 23) rd) (0, σ 22, σ 24) 68).1), some (.int (nI 68)), w] [.int (am_it (am_seS (σ 23) rd) (0, σ 22, σ 24) 68).1] (hG (am_up (am_up σ 22 (am_it (am_seS (σ 23) rd) (0, σ 22, σ 24) 68).2.1) 24 (am_it (am_seS (σ 23) rd) (0, σ 22, σ 24) 68).2.2) sr ln Lc μ) rfl ?_
        rw [c1]; exact am_ret2 rfl rfl rfl rfl (by rw [if_pos rfl]; rfl)
      · skip
        refine am_g 4 81 [some (.ref 27), some (.int rd), some (.int (am_it (am_seS (σ 23) rd) (0, σ 22, σ 24) 68).1), some (.int (nI 68)), w] [.int (am_it (am_seS (σ 23) rd) (0, σ 22, σ 24) 68).1] (hG (am_us (am_up (am_up σ 22 (am_it (am_seS (σ 23) rd) (0, σ 22, σ 24) 68).2.1) 24 (am_it (am_seS (σ 23) rd) (0, σ 22, σ 24) 68).2.2) 21 rd) sr ln Lc μ) rfl ?_
        rw [(am_seS_b _ _ _ _ _).resolve_left c1]; exact am_ret2 rfl rfl rfl rfl (by rw [if_neg (by decide)])
    | succ r ih =>
      intro p w hi
      have hi2 : p < 68 := by omega
      refine am_g 5 (if 68 ≤ (nI p) then 71 else 13) [some (.ref 27), some (.int rd), some (.int (am_it (am_seS (σ 23) rd) (0, σ 22, σ 24) p).1), some (.int (nI p)), w] [] (hG (am_up (am_up σ 22 (am_it (am_seS (σ 23) rd) (0, σ 22, σ 24) p).2.1) 24 (am_it (am_seS (σ 23) rd) (0, σ 22, σ 24) p).2.2) sr ln Lc μ) rfl ?_
      rw [if_neg (show ¬ 68 ≤ (nI p) from (am_dnle (a := 68) (b := p) (rfl) (rfl) (by omega) (by omega) (by omega)))]
      refine am_g 5 (if 68 ≤ (nI p) then 71 else 22) [some (.ref 27), some (.int rd), some (.int (am_it (am_seS (σ 23) rd) (0, σ 22, σ 24) p).1), some (.int (nI p)), w] [] (hG (am_up (am_up σ 22 (am_it (am_seS (σ 23) rd) (0, σ 22, σ 24) p).2.1) 24 (am_it (am_seS (σ 23) rd) (0, σ 22, σ 24) p).2.2) sr ln Lc μ) rfl ?_
      rw [if_neg (show ¬ 68 ≤ (nI p) from (am_dnle (a := 68) (b := p) (rfl) (rfl) (by omega) (by omega) (by omega)))]
      refine am_g 3 27 [some (.ref 27), some (.int rd), some (.int (am_it (am_seS (σ 23) rd) (0, σ 22, σ 24) p).1), some (.int (nI p)), w] [.int (nI p), .ref 29] (hG (am_up (am_up σ 22 (am_it (am_seS (σ 23) rd) (0, σ 22, σ 24) p).2.1) 24 (am_it (am_seS (σ 23) rd) (0, σ 22, σ 24) p).2.2) sr ln Lc μ) rfl ?_
      refine am_ialdR (n := 68) (f := (σ 23)) (k := p) rfl rfl (rfl) (by omega) (by decide) ?_
      refine am_g 3 33 [some (.ref 27), some (.int rd), some (.int (am_it (am_seS (σ 23) rd) (0, σ 22, σ 24) p).1), some (.int (nI p)), w] [.int (nI p), .ref 28, .int (σ 23 p)] (hG (am_up (am_up σ 22 (am_it (am_seS (σ 23) rd) (0, σ 22, σ 24) p).2.1) 24 (am_it (am_seS (σ 23) rd) (0, σ 22, σ 24) p).2.2) sr ln Lc μ) rfl ?_
      refine am_ialdR (n := 68) (f := (am_it (am_seS (σ 23) rd) (0, σ 22, σ 24) p).2.1) (k := p) rfl rfl (rfl) (by omega) (by decide) ?_
      refine am_g 6 (if ((σ 23 p) &&& (((am_it (am_seS (σ 23) rd) (0, σ 22, σ 24) p).2.1 p) ^^^ (-1))) = 0 then 65 else 44) [some (.ref 27), some (.int rd), some (.int (am_it (am_seS (σ 23) rd) (0, σ 22, σ 24) p).1), some (.int (nI p)), some (.int ((σ 23 p) &&& (((am_it (am_seS (σ 23) rd) (0, σ 22, σ 24) p).2.1 p) ^^^ (-1))))] [] (hG (am_up (am_up σ 22 (am_it (am_seS (σ 23) rd) (0, σ 22, σ 24) p).2.1) 24 (am_it (am_seS (σ 23) rd) (0, σ 22, σ 24) p).2.2) sr ln Lc μ) rfl (am_brR (fun c2 => ?_) (fun c2 => ?_))
      · skip
        refine am_g 2 4 [some (.ref 27), some (.int rd), some (.int (am_it (am_seS (σ 23) rd) (0, σ 22, σ 24) p).1), some (.int ((nI p) + 1)), some (.int ((σ 23 p) &&& (((am_it (am_seS (σ 23) rd) (0, σ 22, σ 24) p).2.1 p) ^^^ (-1))))] [] (hG (am_up (am_up σ 22 (am_it (am_seS (σ 23) rd) (0, σ 22, σ 24) p).2.1) 24 (am_it (am_seS (σ 23) rd) (0, σ 22, σ 24) p).2.2) sr ln Lc μ) rfl ?_
        rw [nI_up, ← (show (am_it (am_seS (σ 23) rd) (0, σ 22, σ 24) (p + 1)) = (am_it (am_seS (σ 23) rd) (0, σ 22, σ 24) p) from (by rw [am_itS]; exact if_pos c2))]
        exact ih (p + 1) _ (by omega)
      · skip
        refine am_g 4 50 [some (.ref 27), some (.int rd), some (.int (am_it (am_seS (σ 23) rd) (0, σ 22, σ 24) p).1), some (.int (nI p)), some (.int ((σ 23 p) &&& (((am_it (am_seS (σ 23) rd) (0, σ 22, σ 24) p).2.1 p) ^^^ (-1))))] [.int (nI p), .ref 28, .int (nI p), .ref 28] (hG (am_up (am_up σ 22 (am_it (am_seS (σ 23) rd) (0, σ 22, σ 24) p).2.1) 24 (am_it (am_seS (σ 23) rd) (0, σ 22, σ 24) p).2.2) sr ln Lc μ) rfl ?_
        refine am_ialdR (n := 68) (f := (am_it (am_seS (σ 23) rd) (0, σ 22, σ 24) p).2.1) (k := p) rfl rfl (rfl) (by omega) (by decide) ?_
        refine am_g 2 54 [some (.ref 27), some (.int rd), some (.int (am_it (am_seS (σ 23) rd) (0, σ 22, σ 24) p).1), some (.int (nI p)), some (.int ((σ 23 p) &&& (((am_it (am_seS (σ 23) rd) (0, σ 22, σ 24) p).2.1 p) ^^^ (-1))))] [.int (((am_it (am_seS (σ 23) rd) (0, σ 22, σ 24) p).2.1 p) ||| ((σ 23 p) &&& (((am_it (am_seS (σ 23) rd) (0, σ 22, σ 24) p).2.1 p) ^^^ (-1)))), .int (nI p), .ref 28] (hG (am_up (am_up σ 22 (am_it (am_seS (σ 23) rd) (0, σ 22, σ 24) p).2.1) 24 (am_it (am_seS (σ 23) rd) (0, σ 22, σ 24) p).2.2) sr ln Lc μ) rfl ?_
        refine am_iastR (n := 68) (f := (am_it (am_seS (σ 23) rd) (0, σ 22, σ 24) p).2.1) (k := p) (h1 := (hG (am_up (am_up σ 24 (am_it (am_seS (σ 23) rd) (0, σ 22, σ 24) p).2.2) 22 (upd (am_it (am_seS (σ 23) rd) (0, σ 22, σ 24) p).2.1 p (((am_it (am_seS (σ 23) rd) (0, σ 22, σ 24) p).2.1 p) ||| ((σ 23 p) &&& (((am_it (am_seS (σ 23) rd) (0, σ 22, σ 24) p).2.1 p) ^^^ (-1)))))) sr ln Lc μ)) rfl rfl (rfl) (by omega) (by decide) rfl ?_
        refine am_g 4 60 [some (.ref 27), some (.int rd), some (.int (am_it (am_seS (σ 23) rd) (0, σ 22, σ 24) p).1), some (.int (nI p)), some (.int ((σ 23 p) &&& (((am_it (am_seS (σ 23) rd) (0, σ 22, σ 24) p).2.1 p) ^^^ (-1))))] [.int rd, .int ((σ 23 p) &&& (((am_it (am_seS (σ 23) rd) (0, σ 22, σ 24) p).2.1 p) ^^^ (-1))), .int (nI p), .ref 27] (hG (am_up (am_up σ 24 (am_it (am_seS (σ 23) rd) (0, σ 22, σ 24) p).2.2) 22 (upd (am_it (am_seS (σ 23) rd) (0, σ 22, σ 24) p).2.1 p (((am_it (am_seS (σ 23) rd) (0, σ 22, σ 24) p).2.1 p) ||| ((σ 23 p) &&& (((am_it (am_seS (σ 23) rd) (0, σ 22, σ 24) p).2.1 p) ^^^ (-1)))))) sr ln Lc μ) rfl ?_
        refine am_call (y := 55) (vs := [.ref 27, .int (nI p), .int ((σ 23 p) &&& (((am_it (am_seS (σ 23) rd) (0, σ 22, σ 24) p).2.1 p) ^^^ (-1))), .int rd]) (rest := []) (v := none) (h1 := (hG (am_up (am_up σ 22 (upd (am_it (am_seS (σ 23) rd) (0, σ 22, σ 24) p).2.1 p (((am_it (am_seS (σ 23) rd) (0, σ 22, σ 24) p).2.1 p) ||| ((σ 23 p) &&& (((am_it (am_seS (σ 23) rd) (0, σ 22, σ 24) p).2.1 p) ^^^ (-1)))))) 24 (am_note p ((σ 23 p) &&& (((am_it (am_seS (σ 23) rd) (0, σ 22, σ 24) p).2.1 p) ^^^ (-1))) rd (am_it (am_seS (σ 23) rd) (0, σ 22, σ 24) p).2.2)) sr ln Lc μ)) rfl rfl rfl (sp_X7_noteRound_1 (σ := (am_up (am_up σ 24 (am_it (am_seS (σ 23) rd) (0, σ 22, σ 24) p).2.2) 22 (upd (am_it (am_seS (σ 23) rd) (0, σ 22, σ 24) p).2.1 p (((am_it (am_seS (σ 23) rd) (0, σ 22, σ 24) p).2.1 p) ||| ((σ 23 p) &&& (((am_it (am_seS (σ 23) rd) (0, σ 22, σ 24) p).2.1 p) ^^^ (-1))))))) (μ := μ) d p _ _ (by omega)) ?_
        refine am_g 4 4 [some (.ref 27), some (.int rd), some (.int 1), some (.int ((nI p) + 1)), some (.int ((σ 23 p) &&& (((am_it (am_seS (σ 23) rd) (0, σ 22, σ 24) p).2.1 p) ^^^ (-1))))] [] (hG (am_up (am_up σ 22 (upd (am_it (am_seS (σ 23) rd) (0, σ 22, σ 24) p).2.1 p (((am_it (am_seS (σ 23) rd) (0, σ 22, σ 24) p).2.1 p) ||| ((σ 23 p) &&& (((am_it (am_seS (σ 23) rd) (0, σ 22, σ 24) p).2.1 p) ^^^ (-1)))))) 24 (am_note p ((σ 23 p) &&& (((am_it (am_seS (σ 23) rd) (0, σ 22, σ 24) p).2.1 p) ^^^ (-1))) rd (am_it (am_seS (σ 23) rd) (0, σ 22, σ 24) p).2.2)) sr ln Lc μ) rfl ?_
        have q : (am_it (am_seS (σ 23) rd) (0, σ 22, σ 24) (p + 1)) = (1, (upd (am_it (am_seS (σ 23) rd) (0, σ 22, σ 24) p).2.1 p (((am_it (am_seS (σ 23) rd) (0, σ 22, σ 24) p).2.1 p) ||| ((σ 23 p) &&& (((am_it (am_seS (σ 23) rd) (0, σ 22, σ 24) p).2.1 p) ^^^ (-1))))), (am_note p ((σ 23 p) &&& (((am_it (am_seS (σ 23) rd) (0, σ 22, σ 24) p).2.1 p) ^^^ (-1))) rd (am_it (am_seS (σ 23) rd) (0, σ 22, σ 24) p).2.2)) := by rw [am_itS]; exact if_neg c2
        have k := ih (p + 1) (some (.int ((σ 23 p) &&& (((am_it (am_seS (σ 23) rd) (0, σ 22, σ 24) p).2.1 p) ^^^ (-1))))) (by omega)
        rw [q, ← nI_up] at k
        exact k
  exact lp 68 0 none (by omega)
theorem sp_X7_noteRound_2_lo (d : Nat) (pl : Nat) (fr rd : Int32) (hp : pl < 20) (hp2 : pl < 68) : am_X xs LL (d + 2) 55 [.ref 31, .int (nI pl), .int fr, .int rd] (hG σ sr ln Lc μ) none (hG (am_up σ 34 (am_it (am_ntS pl fr rd) (σ 34) 16)) sr ln Lc μ) := by
  refine am_XR (d := d + 1) (C := cd_X7_noteRound) (L := [some (.ref 31), some (.int (nI pl)), some (.int fr), some (.int rd), none, none]) rfl rfl rfl rfl ?_
  refine am_g 2 3 [some (.ref 31), some (.int (nI pl)), some (.int fr), some (.int rd), some (.int 0), none] [] (hG σ sr ln Lc μ) rfl ?_
  have lp : ∀ (r o : Nat) (w : Option Value), o + r = 16 → am_R xs LL cd_X7_noteRound (am_X xs LL (d + 1)) 3 [some (.ref 31), some (.int (nI pl)), some (.int fr), some (.int rd), some (.int (nI o)), w] [] (hG (am_up σ 34 (am_it (am_ntS pl fr rd) (σ 34) o)) sr ln Lc μ) none (hG (am_up σ 34 (am_it (am_ntS pl fr rd) (σ 34) 16)) sr ln Lc μ) := by
    intro r
    induction r with
    | zero =>
      intro o w hi
      have hi2 : o = 16 := by omega
      rw [hi2]
      refine am_g 3 (if 16 ≤ (nI 16) then 57 else 10) [some (.ref 31), some (.int (nI pl)), some (.int fr), some (.int rd), some (.int (nI 16)), w] [] (hG (am_up σ 34 (am_it (am_ntS pl fr rd) (σ 34) 16)) sr ln Lc μ) rfl ?_
      rw [if_pos (show 16 ≤ (nI 16) from (am_dle (a := 16) (b := 16) (rfl) (rfl) (by omega) (by omega) (by omega)))]
      exact am_ret2 rfl rfl rfl rfl rfl
    | succ r ih =>
      intro o w hi
      have hi2 : o < 16 := by omega
      refine am_g 3 (if 16 ≤ (nI o) then 57 else 10) [some (.ref 31), some (.int (nI pl)), some (.int fr), some (.int rd), some (.int (nI o)), w] [] (hG (am_up σ 34 (am_it (am_ntS pl fr rd) (σ 34) o)) sr ln Lc μ) rfl ?_
      rw [if_neg (show ¬ 16 ≤ (nI o) from (am_dnle (a := 16) (b := o) (rfl) (rfl) (by omega) (by omega) (by omega)))]
      refine am_g 8 22 [some (.ref 31), some (.int (nI pl)), some (.int fr), some (.int rd), some (.int (nI o)), some (.int (((nI pl) * 16) + (nI o)))] [.int (nI o), .int fr] (hG (am_up σ 34 (am_it (am_ntS pl fr rd) (σ 34) o)) sr ln Lc μ) rfl ?_
      cases e1 : am_hb fr o with
      | false =>
        refine am_call (y := 126) (vs := [.int fr, .int (nI o)]) (rest := []) (v := (some (.int 0))) (h1 := (hG (am_up σ 34 (am_it (am_ntS pl fr rd) (σ 34) o)) sr ln Lc μ)) rfl rfl rfl (sp_X11_hasBit d _ _ _ e1) ?_
        refine am_g 3 3 [some (.ref 31), some (.int (nI pl)), some (.int fr), some (.int rd), some (.int ((nI o) + 1)), some (.int (((nI pl) * 16) + (nI o)))] [] (hG (am_up σ 34 (am_it (am_ntS pl fr rd) (σ 34) o)) sr ln Lc μ) rfl ?_
        rw [nI_up, ← (show am_it (am_ntS pl fr rd) (σ 34) (o + 1) = (am_it (am_ntS pl fr rd) (σ 34) o) from (by rw [am_itS]; unfold am_ntS; rw [e1]; rfl))]
        exact ih (o + 1) _ (by omega)
      | true =>
        refine am_call (y := 126) (vs := [.int fr, .int (nI o)]) (rest := []) (v := (some (.int 1))) (h1 := (hG (am_up σ 34 (am_it (am_ntS pl fr rd) (σ 34) o)) sr ln Lc μ)) rfl rfl rfl (sp_X11_hasBit d _ _ _ e1) ?_
        refine am_g 3 (if (((nI pl) * 16) + (nI o)) < 0 then 51 else 33) [some (.ref 31), some (.int (nI pl)), some (.int fr), some (.int rd), some (.int (nI o)), some (.int (((nI pl) * 16) + (nI o)))] [] (hG (am_up σ 34 (am_it (am_ntS pl fr rd) (σ 34) o)) sr ln Lc μ) rfl ?_
        rw [if_neg (show ¬ (((nI pl) * 16) + (nI o)) < 0 from (am_dnlt (a := ((16 * pl) + o)) (b := 0) (show (((nI pl) * (nI 16)) + (nI o)) = nI ((16 * pl) + o) from by first | (simp only [nI_mul2, nI_add]; done) | (simp only [nI_mul2, nI_add]; exact congrArg nI (by omega))) (rfl) (by omega) (by omega) (by omega)))]
        refine am_g 5 (if 320 ≤ (((nI pl) * 16) + (nI o)) then 51 else 43) [some (.ref 31), some (.int (nI pl)), some (.int fr), some (.int rd), some (.int (nI o)), some (.int (((nI pl) * 16) + (nI o)))] [] (hG (am_up σ 34 (am_it (am_ntS pl fr rd) (σ 34) o)) sr ln Lc μ) rfl ?_
        rw [if_neg (show ¬ 320 ≤ (((nI pl) * 16) + (nI o)) from (am_dnle (a := 320) (b := ((16 * pl) + o)) (rfl) (show (((nI pl) * (nI 16)) + (nI o)) = nI ((16 * pl) + o) from by first | (simp only [nI_mul2, nI_add]; done) | (simp only [nI_mul2, nI_add]; exact congrArg nI (by omega))) (by omega) (by omega) (by omega)))]
        refine am_g 4 50 [some (.ref 31), some (.int (nI pl)), some (.int fr), some (.int rd), some (.int (nI o)), some (.int (((nI pl) * 16) + (nI o)))] [.int rd, .int (((nI pl) * 16) + (nI o)), .ref 34] (hG (am_up σ 34 (am_it (am_ntS pl fr rd) (σ 34) o)) sr ln Lc μ) rfl ?_
        refine am_iastR (n := 320) (f := (am_it (am_ntS pl fr rd) (σ 34) o)) (k := ((16 * pl) + o)) (h1 := (hG (am_up σ 34 (upd (am_it (am_ntS pl fr rd) (σ 34) o) ((16 * pl) + o) rd)) sr ln Lc μ)) rfl rfl (show (((nI pl) * (nI 16)) + (nI o)) = nI ((16 * pl) + o) from by first | (simp only [nI_mul2, nI_add]; done) | (simp only [nI_mul2, nI_add]; exact congrArg nI (by omega))) (by omega) (by decide) rfl ?_
        refine am_g 2 3 [some (.ref 31), some (.int (nI pl)), some (.int fr), some (.int rd), some (.int ((nI o) + 1)), some (.int (((nI pl) * 16) + (nI o)))] [] (hG (am_up σ 34 (upd (am_it (am_ntS pl fr rd) (σ 34) o) ((16 * pl) + o) rd)) sr ln Lc μ) rfl ?_
        rw [nI_up, ← (show am_it (am_ntS pl fr rd) (σ 34) (o + 1) = (upd (am_it (am_ntS pl fr rd) (σ 34) o) ((16 * pl) + o) rd) from (by rw [am_itS]; unfold am_ntS; rw [e1]; rfl))]
        exact ih (o + 1) _ (by omega)
  exact lp 16 0 none (by omega)
theorem sp_X7_noteRound_2_hi (d : Nat) (pl : Nat) (fr rd : Int32) (hp : 20 ≤ pl) (hp2 : pl < 68) : am_X xs LL (d + 2) 55 [.ref 31, .int (nI pl), .int fr, .int rd] (hG σ sr ln Lc μ) none (hG σ sr ln Lc μ) := by
  refine am_XR (d := d + 1) (C := cd_X7_noteRound) (L := [some (.ref 31), some (.int (nI pl)), some (.int fr), some (.int rd), none, none]) rfl rfl rfl rfl ?_
  refine am_g 2 3 [some (.ref 31), some (.int (nI pl)), some (.int fr), some (.int rd), some (.int 0), none] [] (hG σ sr ln Lc μ) rfl ?_
  have lp : ∀ (r o : Nat) (w : Option Value), o + r = 16 → am_R xs LL cd_X7_noteRound (am_X xs LL (d + 1)) 3 [some (.ref 31), some (.int (nI pl)), some (.int fr), some (.int rd), some (.int (nI o)), w] [] (hG σ sr ln Lc μ) none (hG σ sr ln Lc μ) := by
    intro r
    induction r with
    | zero =>
      intro o w hi
      have hi2 : o = 16 := by omega
      rw [hi2]
      refine am_g 3 (if 16 ≤ (nI 16) then 57 else 10) [some (.ref 31), some (.int (nI pl)), some (.int fr), some (.int rd), some (.int (nI 16)), w] [] (hG σ sr ln Lc μ) rfl ?_
      rw [if_pos (show 16 ≤ (nI 16) from (am_dle (a := 16) (b := 16) (rfl) (rfl) (by omega) (by omega) (by omega)))]
      exact am_ret2 rfl rfl rfl rfl rfl
    | succ r ih =>
      intro o w hi
      have hi2 : o < 16 := by omega
      refine am_g 3 (if 16 ≤ (nI o) then 57 else 10) [some (.ref 31), some (.int (nI pl)), some (.int fr), some (.int rd), some (.int (nI o)), w] [] (hG σ sr ln Lc μ) rfl ?_
      rw [if_neg (show ¬ 16 ≤ (nI o) from (am_dnle (a := 16) (b := o) (rfl) (rfl) (by omega) (by omega) (by omega)))]
      refine am_g 8 22 [some (.ref 31), some (.int (nI pl)), some (.int fr), some (.int rd), some (.int (nI o)), some (.int (((nI pl) * 16) + (nI o)))] [.int (nI o), .int fr] (hG σ sr ln Lc μ) rfl ?_
      cases e1 : am_hb fr o with
      | false =>
        refine am_call (y := 126) (vs := [.int fr, .int (nI o)]) (rest := []) (v := (some (.int 0))) (h1 := (hG σ sr ln Lc μ)) rfl rfl rfl (sp_X11_hasBit d _ _ _ e1) ?_
        refine am_g 3 3 [some (.ref 31), some (.int (nI pl)), some (.int fr), some (.int rd), some (.int ((nI o) + 1)), some (.int (((nI pl) * 16) + (nI o)))] [] (hG σ sr ln Lc μ) rfl ?_
        rw [nI_up]
        exact ih (o + 1) _ (by omega)
      | true =>
        refine am_call (y := 126) (vs := [.int fr, .int (nI o)]) (rest := []) (v := (some (.int 1))) (h1 := (hG σ sr ln Lc μ)) rfl rfl rfl (sp_X11_hasBit d _ _ _ e1) ?_
        refine am_g 3 (if (((nI pl) * 16) + (nI o)) < 0 then 51 else 33) [some (.ref 31), some (.int (nI pl)), some (.int fr), some (.int rd), some (.int (nI o)), some (.int (((nI pl) * 16) + (nI o)))] [] (hG σ sr ln Lc μ) rfl ?_
        rw [if_neg (show ¬ (((nI pl) * 16) + (nI o)) < 0 from (am_dnlt (a := ((16 * pl) + o)) (b := 0) (show (((nI pl) * (nI 16)) + (nI o)) = nI ((16 * pl) + o) from by first | (simp only [nI_mul2, nI_add]; done) | (simp only [nI_mul2, nI_add]; exact congrArg nI (by omega))) (rfl) (by omega) (by omega) (by omega)))]
        refine am_g 5 (if 320 ≤ (((nI pl) * 16) + (nI o)) then 51 else 43) [some (.ref 31), some (.int (nI pl)), some (.int fr), some (.int rd), some (.int (nI o)), some (.int (((nI pl) * 16) + (nI o)))] [] (hG σ sr ln Lc μ) rfl ?_
        rw [if_pos (show 320 ≤ (((nI pl) * 16) + (nI o)) from (am_dle (a := 320) (b := ((16 * pl) + o)) (rfl) (show (((nI pl) * (nI 16)) + (nI o)) = nI ((16 * pl) + o) from by first | (simp only [nI_mul2, nI_add]; done) | (simp only [nI_mul2, nI_add]; exact congrArg nI (by omega))) (by omega) (by omega) (by omega)))]
        refine am_g 2 3 [some (.ref 31), some (.int (nI pl)), some (.int fr), some (.int rd), some (.int ((nI o) + 1)), some (.int (((nI pl) * 16) + (nI o)))] [] (hG σ sr ln Lc μ) rfl ?_
        rw [nI_up]
        exact ih (o + 1) _ (by omega)
  exact lp 16 0 none (by omega)
theorem sp_X7_noteRound_2 (d pl : Nat) (fr rd : Int32) (hp2 : pl < 68) : am_X xs LL (d + 2) 55 [.ref 31, .int (nI pl), .int fr, .int rd] (hG σ sr ln Lc μ) none (hG (am_up σ 34 (am_note pl fr rd (σ 34))) sr ln Lc μ) := by
  unfold am_note
  by_cases h : pl < 20
  · rw [if_pos h]; exact sp_X7_noteRound_2_lo d pl fr rd h hp2
  · rw [if_neg h, am_up_id]; exact sp_X7_noteRound_2_hi d pl fr rd (by omega) hp2
theorem sp_X7_settle_2 (d : Nat) (rd : Int32) : am_X xs LL (d + 3) 54 [.ref 31, .int rd] (hG σ sr ln Lc μ) (some (.int (am_it (am_seS (σ 33) rd) (0, σ 32, σ 34) 68).1)) (hG (am_us (am_up (am_up σ 32 (am_it (am_seS (σ 33) rd) (0, σ 32, σ 34) 68).2.1) 34 (am_it (am_seS (σ 33) rd) (0, σ 32, σ 34) 68).2.2) 31 (if (am_it (am_seS (σ 33) rd) (0, σ 32, σ 34) 68).1 = 0 then σ 31 0 else rd)) sr ln Lc μ) := by
  refine am_XR (d := d + 2) (C := cd_X7_settle) (L := [some (.ref 31), some (.int rd), none, none, none]) rfl rfl rfl rfl ?_
  refine am_g 4 4 [some (.ref 31), some (.int rd), some (.int 0), some (.int 0), none] [] (hG σ sr ln Lc μ) rfl ?_
  have lp : ∀ (r p : Nat) (w : Option Value), p + r = 68 → am_R xs LL cd_X7_settle (am_X xs LL (d + 2)) 4 [some (.ref 31), some (.int rd), some (.int (am_it (am_seS (σ 33) rd) (0, σ 32, σ 34) p).1), some (.int (nI p)), w] [] (hG (am_up (am_up σ 32 (am_it (am_seS (σ 33) rd) (0, σ 32, σ 34) p).2.1) 34 (am_it (am_seS (σ 33) rd) (0, σ 32, σ 34) p).2.2) sr ln Lc μ) (some (.int (am_it (am_seS (σ 33) rd) (0, σ 32, σ 34) 68).1)) (hG (am_us (am_up (am_up σ 32 (am_it (am_seS (σ 33) rd) (0, σ 32, σ 34) 68).2.1) 34 (am_it (am_seS (σ 33) rd) (0, σ 32, σ 34) 68).2.2) 31 (if (am_it (am_seS (σ 33) rd) (0, σ 32, σ 34) 68).1 = 0 then σ 31 0 else rd)) sr ln Lc μ) := by
    intro r
    induction r with
    | zero =>
      intro p w hi
      have hi2 : p = 68 := by omega
      rw [hi2]
      refine am_g 5 (if 68 ≤ (nI 68) then 71 else 13) [some (.ref 31), some (.int rd), some (.int (am_it (am_seS (σ 33) rd) (0, σ 32, σ 34) 68).1), some (.int (nI 68)), w] [] (hG (am_up (am_up σ 32 (am_it (am_seS (σ 33) rd) (0, σ 32, σ 34) 68).2.1) 34 (am_it (am_seS (σ 33) rd) (0, σ 32, σ 34) 68).2.2) sr ln Lc μ) rfl ?_
      rw [if_pos (show 68 ≤ (nI 68) from (am_dle (a := 68) (b := 68) (rfl) (rfl) (by omega) (by omega) (by omega)))]
      refine am_g 2 (if (am_it (am_seS (σ 33) rd) (0, σ 32, σ 34) 68).1 = 0 then 80 else 75) [some (.ref 31), some (.int rd), some (.int (am_it (am_seS (σ 33) rd) (0, σ 32, σ 34) 68).1), some (.int (nI 68)), w] [] (hG (am_up (am_up σ 32 (am_it (am_seS (σ 33) rd) (0, σ 32, σ 34) 68).2.1) 34 (am_it (am_seS (σ 33) rd) (0, σ 32, σ 34) 68).2.2) sr ln Lc μ) rfl (am_brR (fun c1 => ?_) (fun c1 => ?_))
      · skip
        refine am_g 1 81 [some (.ref 31), some (.int rd), some (.int (am_it (am_seS (σ 33) rd) (0, σ 32, σ 34) 68).1), some (.int (nI 68)), w] [.int (am_it (am_seS (σ 33) rd) (0, σ 32, σ 34) 68).1] (hG (am_up (am_up σ 32 (am_it (am_seS (σ 33) rd) (0, σ 32, σ 34) 68).2.1) 34 (am_it (am_seS (σ 33) rd) (0, σ 32, σ 34) 68).2.2) sr ln Lc μ) rfl ?_
        rw [c1]; exact am_ret2 rfl rfl rfl rfl (by rw [if_pos rfl]; rfl)
      · skip
        refine am_g 4 81 [some (.ref 31), some (.int rd), some (.int (am_it (am_seS (σ 33) rd) (0, σ 32, σ 34) 68).1), some (.int (nI 68)), w] [.int (am_it (am_seS (σ 33) rd) (0, σ 32, σ 34) 68).1] (hG (am_us (am_up (am_up σ 32 (am_it (am_seS (σ 33) rd) (0, σ 32, σ 34) 68).2.1) 34 (am_it (am_seS (σ 33) rd) (0, σ 32, σ 34) 68).2.2) 31 rd) sr ln Lc μ) rfl ?_
        rw [(am_seS_b _ _ _ _ _).resolve_left c1]; exact am_ret2 rfl rfl rfl rfl (by rw [if_neg (by decide)])
    | succ r ih =>
      intro p w hi
      have hi2 : p < 68 := by omega
      refine am_g 5 (if 68 ≤ (nI p) then 71 else 13) [some (.ref 31), some (.int rd), some (.int (am_it (am_seS (σ 33) rd) (0, σ 32, σ 34) p).1), some (.int (nI p)), w] [] (hG (am_up (am_up σ 32 (am_it (am_seS (σ 33) rd) (0, σ 32, σ 34) p).2.1) 34 (am_it (am_seS (σ 33) rd) (0, σ 32, σ 34) p).2.2) sr ln Lc μ) rfl ?_
      rw [if_neg (show ¬ 68 ≤ (nI p) from (am_dnle (a := 68) (b := p) (rfl) (rfl) (by omega) (by omega) (by omega)))]
      refine am_g 5 (if 68 ≤ (nI p) then 71 else 22) [some (.ref 31), some (.int rd), some (.int (am_it (am_seS (σ 33) rd) (0, σ 32, σ 34) p).1), some (.int (nI p)), w] [] (hG (am_up (am_up σ 32 (am_it (am_seS (σ 33) rd) (0, σ 32, σ 34) p).2.1) 34 (am_it (am_seS (σ 33) rd) (0, σ 32, σ 34) p).2.2) sr ln Lc μ) rfl ?_
      rw [if_neg (show ¬ 68 ≤ (nI p) from (am_dnle (a := 68) (b := p) (rfl) (rfl) (by omega) (by omega) (by omega)))]
      refine am_g 3 27 [some (.ref 31), some (.int rd), some (.int (am_it (am_seS (σ 33) rd) (0, σ 32, σ 34) p).1), some (.int (nI p)), w] [.int (nI p), .ref 33] (hG (am_up (am_up σ 32 (am_it (am_seS (σ 33) rd) (0, σ 32, σ 34) p).2.1) 34 (am_it (am_seS (σ 33) rd) (0, σ 32, σ 34) p).2.2) sr ln Lc μ) rfl ?_
      refine am_ialdR (n := 68) (f := (σ 33)) (k := p) rfl rfl (rfl) (by omega) (by decide) ?_
      refine am_g 3 33 [some (.ref 31), some (.int rd), some (.int (am_it (am_seS (σ 33) rd) (0, σ 32, σ 34) p).1), some (.int (nI p)), w] [.int (nI p), .ref 32, .int (σ 33 p)] (hG (am_up (am_up σ 32 (am_it (am_seS (σ 33) rd) (0, σ 32, σ 34) p).2.1) 34 (am_it (am_seS (σ 33) rd) (0, σ 32, σ 34) p).2.2) sr ln Lc μ) rfl ?_
      refine am_ialdR (n := 68) (f := (am_it (am_seS (σ 33) rd) (0, σ 32, σ 34) p).2.1) (k := p) rfl rfl (rfl) (by omega) (by decide) ?_
      refine am_g 6 (if ((σ 33 p) &&& (((am_it (am_seS (σ 33) rd) (0, σ 32, σ 34) p).2.1 p) ^^^ (-1))) = 0 then 65 else 44) [some (.ref 31), some (.int rd), some (.int (am_it (am_seS (σ 33) rd) (0, σ 32, σ 34) p).1), some (.int (nI p)), some (.int ((σ 33 p) &&& (((am_it (am_seS (σ 33) rd) (0, σ 32, σ 34) p).2.1 p) ^^^ (-1))))] [] (hG (am_up (am_up σ 32 (am_it (am_seS (σ 33) rd) (0, σ 32, σ 34) p).2.1) 34 (am_it (am_seS (σ 33) rd) (0, σ 32, σ 34) p).2.2) sr ln Lc μ) rfl (am_brR (fun c2 => ?_) (fun c2 => ?_))
      · skip
        refine am_g 2 4 [some (.ref 31), some (.int rd), some (.int (am_it (am_seS (σ 33) rd) (0, σ 32, σ 34) p).1), some (.int ((nI p) + 1)), some (.int ((σ 33 p) &&& (((am_it (am_seS (σ 33) rd) (0, σ 32, σ 34) p).2.1 p) ^^^ (-1))))] [] (hG (am_up (am_up σ 32 (am_it (am_seS (σ 33) rd) (0, σ 32, σ 34) p).2.1) 34 (am_it (am_seS (σ 33) rd) (0, σ 32, σ 34) p).2.2) sr ln Lc μ) rfl ?_
        rw [nI_up, ← (show (am_it (am_seS (σ 33) rd) (0, σ 32, σ 34) (p + 1)) = (am_it (am_seS (σ 33) rd) (0, σ 32, σ 34) p) from (by rw [am_itS]; exact if_pos c2))]
        exact ih (p + 1) _ (by omega)
      · skip
        refine am_g 4 50 [some (.ref 31), some (.int rd), some (.int (am_it (am_seS (σ 33) rd) (0, σ 32, σ 34) p).1), some (.int (nI p)), some (.int ((σ 33 p) &&& (((am_it (am_seS (σ 33) rd) (0, σ 32, σ 34) p).2.1 p) ^^^ (-1))))] [.int (nI p), .ref 32, .int (nI p), .ref 32] (hG (am_up (am_up σ 32 (am_it (am_seS (σ 33) rd) (0, σ 32, σ 34) p).2.1) 34 (am_it (am_seS (σ 33) rd) (0, σ 32, σ 34) p).2.2) sr ln Lc μ) rfl ?_
        refine am_ialdR (n := 68) (f := (am_it (am_seS (σ 33) rd) (0, σ 32, σ 34) p).2.1) (k := p) rfl rfl (rfl) (by omega) (by decide) ?_
        refine am_g 2 54 [some (.ref 31), some (.int rd), some (.int (am_it (am_seS (σ 33) rd) (0, σ 32, σ 34) p).1), some (.int (nI p)), some (.int ((σ 33 p) &&& (((am_it (am_seS (σ 33) rd) (0, σ 32, σ 34) p).2.1 p) ^^^ (-1))))] [.int (((am_it (am_seS (σ 33) rd) (0, σ 32, σ 34) p).2.1 p) ||| ((σ 33 p) &&& (((am_it (am_seS (σ 33) rd) (0, σ 32, σ 34) p).2.1 p) ^^^ (-1)))), .int (nI p), .ref 32] (hG (am_up (am_up σ 32 (am_it (am_seS (σ 33) rd) (0, σ 32, σ 34) p).2.1) 34 (am_it (am_seS (σ 33) rd) (0, σ 32, σ 34) p).2.2) sr ln Lc μ) rfl ?_
        refine am_iastR (n := 68) (f := (am_it (am_seS (σ 33) rd) (0, σ 32, σ 34) p).2.1) (k := p) (h1 := (hG (am_up (am_up σ 34 (am_it (am_seS (σ 33) rd) (0, σ 32, σ 34) p).2.2) 32 (upd (am_it (am_seS (σ 33) rd) (0, σ 32, σ 34) p).2.1 p (((am_it (am_seS (σ 33) rd) (0, σ 32, σ 34) p).2.1 p) ||| ((σ 33 p) &&& (((am_it (am_seS (σ 33) rd) (0, σ 32, σ 34) p).2.1 p) ^^^ (-1)))))) sr ln Lc μ)) rfl rfl (rfl) (by omega) (by decide) rfl ?_
        refine am_g 4 60 [some (.ref 31), some (.int rd), some (.int (am_it (am_seS (σ 33) rd) (0, σ 32, σ 34) p).1), some (.int (nI p)), some (.int ((σ 33 p) &&& (((am_it (am_seS (σ 33) rd) (0, σ 32, σ 34) p).2.1 p) ^^^ (-1))))] [.int rd, .int ((σ 33 p) &&& (((am_it (am_seS (σ 33) rd) (0, σ 32, σ 34) p).2.1 p) ^^^ (-1))), .int (nI p), .ref 31] (hG (am_up (am_up σ 34 (am_it (am_seS (σ 33) rd) (0, σ 32, σ 34) p).2.2) 32 (upd (am_it (am_seS (σ 33) rd) (0, σ 32, σ 34) p).2.1 p (((am_it (am_seS (σ 33) rd) (0, σ 32, σ 34) p).2.1 p) ||| ((σ 33 p) &&& (((am_it (am_seS (σ 33) rd) (0, σ 32, σ 34) p).2.1 p) ^^^ (-1)))))) sr ln Lc μ) rfl ?_
        refine am_call (y := 55) (vs := [.ref 31, .int (nI p), .int ((σ 33 p) &&& (((am_it (am_seS (σ 33) rd) (0, σ 32, σ 34) p).2.1 p) ^^^ (-1))), .int rd]) (rest := []) (v := none) (h1 := (hG (am_up (am_up σ 32 (upd (am_it (am_seS (σ 33) rd) (0, σ 32, σ 34) p).2.1 p (((am_it (am_seS (σ 33) rd) (0, σ 32, σ 34) p).2.1 p) ||| ((σ 33 p) &&& (((am_it (am_seS (σ 33) rd) (0, σ 32, σ 34) p).2.1 p) ^^^ (-1)))))) 34 (am_note p ((σ 33 p) &&& (((am_it (am_seS (σ 33) rd) (0, σ 32, σ 34) p).2.1 p) ^^^ (-1))) rd (am_it (am_seS (σ 33) rd) (0, σ 32, σ 34) p).2.2)) sr ln Lc μ)) rfl rfl rfl (sp_X7_noteRound_2 (σ := (am_up (am_up σ 34 (am_it (am_seS (σ 33) rd) (0, σ 32, σ 34) p).2.2) 32 (upd (am_it (am_seS (σ 33) rd) (0, σ 32, σ 34) p).2.1 p (((am_it (am_seS (σ 33) rd) (0, σ 32, σ 34) p).2.1 p) ||| ((σ 33 p) &&& (((am_it (am_seS (σ 33) rd) (0, σ 32, σ 34) p).2.1 p) ^^^ (-1))))))) (μ := μ) d p _ _ (by omega)) ?_
        refine am_g 4 4 [some (.ref 31), some (.int rd), some (.int 1), some (.int ((nI p) + 1)), some (.int ((σ 33 p) &&& (((am_it (am_seS (σ 33) rd) (0, σ 32, σ 34) p).2.1 p) ^^^ (-1))))] [] (hG (am_up (am_up σ 32 (upd (am_it (am_seS (σ 33) rd) (0, σ 32, σ 34) p).2.1 p (((am_it (am_seS (σ 33) rd) (0, σ 32, σ 34) p).2.1 p) ||| ((σ 33 p) &&& (((am_it (am_seS (σ 33) rd) (0, σ 32, σ 34) p).2.1 p) ^^^ (-1)))))) 34 (am_note p ((σ 33 p) &&& (((am_it (am_seS (σ 33) rd) (0, σ 32, σ 34) p).2.1 p) ^^^ (-1))) rd (am_it (am_seS (σ 33) rd) (0, σ 32, σ 34) p).2.2)) sr ln Lc μ) rfl ?_
        have q : (am_it (am_seS (σ 33) rd) (0, σ 32, σ 34) (p + 1)) = (1, (upd (am_it (am_seS (σ 33) rd) (0, σ 32, σ 34) p).2.1 p (((am_it (am_seS (σ 33) rd) (0, σ 32, σ 34) p).2.1 p) ||| ((σ 33 p) &&& (((am_it (am_seS (σ 33) rd) (0, σ 32, σ 34) p).2.1 p) ^^^ (-1))))), (am_note p ((σ 33 p) &&& (((am_it (am_seS (σ 33) rd) (0, σ 32, σ 34) p).2.1 p) ^^^ (-1))) rd (am_it (am_seS (σ 33) rd) (0, σ 32, σ 34) p).2.2)) := by rw [am_itS]; exact if_neg c2
        have k := ih (p + 1) (some (.int ((σ 33 p) &&& (((am_it (am_seS (σ 33) rd) (0, σ 32, σ 34) p).2.1 p) ^^^ (-1))))) (by omega)
        rw [q, ← nI_up] at k
        exact k
  exact lp 68 0 none (by omega)
end XT
