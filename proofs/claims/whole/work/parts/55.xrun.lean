/-! the class: run, seen, now -/
def pu_lot (s : Nat) : Nat → Nat
  | 0 => s + 1
  | k + 1 => (pu_lot s k * 48271) % 2147483647
theorem pu_lot_lt {s : Nat} (hs : s < 100000) : ∀ k, pu_lot s k < 2147483647 := by
  intro k
  cases k with
  | zero => show s + 1 < 2147483647; omega
  | succ k => exact Nat.mod_lt _ (by decide)
theorem pu_lotS (s k : Nat) : pu_lot s (k + 1) = (pu_lot s k * 48271) % 2147483647 := rfl
def pu_rnS (σ : Nat → Nat → Int32) (sr : Nat → Nat) (ln : Nat → Nat → Int32) (Lc s k : Nat) (st : Nat × (Nat → Int32) × (Nat → Int32)) : Nat × (Nat → Int32) × (Nat → Int32) :=
  if ln (pu_lot s (k + 1) % Lc) 6 = 0 then st else (bif (pu_actF (σ 4) (σ 1) (σ 2) (σ 3) (sr (pu_lot s (k + 1) % Lc)) (ln (pu_lot s (k + 1) % Lc)) st.2).1 then st.1 + 1 else st.1, (pu_actF (σ 4) (σ 1) (σ 2) (σ 3) (sr (pu_lot s (k + 1) % Lc)) (ln (pu_lot s (k + 1) % Lc)) st.2).2)
def pu_rn0 : Nat × (Nat → Int32) × (Nat → Int32) := (0, fun _ => -1, fun _ => 0)
theorem pu_rnS_eq {σ : Nat → Nat → Int32} {sr : Nat → Nat} {ln : Nat → Nat → Int32} {Lc s k l : Nat} {st : Nat × (Nat → Int32) × (Nat → Int32)} (hl : pu_lot s (k + 1) % Lc = l) : pu_rnS σ sr ln Lc s k st = if ln l 6 = 0 then st else (bif (pu_actF (σ 4) (σ 1) (σ 2) (σ 3) (sr l) (ln l) st.2).1 then st.1 + 1 else st.1, (pu_actF (σ 4) (σ 1) (σ 2) (σ 3) (sr l) (ln l) st.2).2) := by
  unfold pu_rnS
  rw [hl]
theorem pu_put_ok {M : Nat} {p v : Int32} {s : (Nat → Int32) × (Nat → Int32)} (h : ∀ q, q < 68 → am_pl M (s.1 q)) (hv : am_pl M v) : ∀ q, q < 68 → am_pl M ((pu_put p v s).1 q) := by
  intro q hq
  show am_pl M (am_pt1 p v s.1 q)
  unfold am_pt1
  split
  · exact h q hq
  · unfold upd
    split
    · exact hv
    · exact h q hq
section AF
variable {kf ab ow ro f : Nat → Int32} {s : (Nat → Int32) × (Nat → Int32)}
theorem pu_actF_1 : pu_actF kf ab ow ro 1 f s = if am_oaF s.1 (f 1) = -1 then (true, pu_put (f 0) (-1) s) else bif am_undF ab (f 2) 9 (kf (am_oaF s.1 (f 1)).toNatClampNeg) then (true, pu_put (f 0) (am_oaF s.1 (f 1)) s) else (false, s) := rfl
theorem pu_actF_2 : pu_actF kf ab ow ro 2 f s = if am_oaF s.1 (f 1) = -1 then (false, s) else (true, pu_put (f 0) (s.1 (20 + 3 * (am_oaF s.1 (f 1)).toNatClampNeg + (f 2).toNatClampNeg)) s) := rfl
theorem pu_actF_3 : pu_actF kf ab ow ro 3 f s = if am_oaF s.1 (f 0) = -1 then (false, s) else (true, pu_put (nI (20 + 3 * (am_oaF s.1 (f 0)).toNatClampNeg + (f 2).toNatClampNeg)) (am_oaF s.1 (f 1)) s) := rfl
theorem pu_actF_4 : pu_actF kf ab ow ro 4 f s = if am_oaF s.1 (f 1) = -1 then (false, s) else pu_clA ro f (am_oaF s.1 (f 1)) (am_aimF ab ow (f 2).toNatClampNeg 9 (kf (am_oaF s.1 (f 1)).toNatClampNeg)) s := rfl
end AF
theorem pu_act_ok {M k : Nat} {kf ab ow ro f : Nat → Int32} (hk : k < 6) (hw : am_wl k f) (h7 : k = 5 → ∃ o, o < M ∧ f 7 = nI o) (hM : M ≤ 16) (hro : ∀ p, p < 18 → am_pl 20 (ro p)) (how : ∀ p, p < 24 → am_pl 6 (ow p)) (hab : am_wab ab) (hk4 : ∀ o, o < 16 → am_pl 8 (kf o)) {s : (Nat → Int32) × (Nat → Int32)} (h : ∀ q, q < 68 → am_pl M (s.1 q)) : ∀ q, q < 68 → am_pl M ((pu_actF kf ab ow ro k f s).2.1 q) := by
  obtain ⟨⟨a, ha, h0⟩, h1, -, -, hn3, -, -, hz, -, -⟩ := hw
  have h0 : am_pl 68 (f 0) := Or.inr ⟨a, by omega, h0⟩
  have h1 : am_pl 68 (f 1) := am_pl_mono h1 (by decide)
  match k, hk with
  | 0, _ => exact pu_put_ok h (pu_oa_pl h h1)
  | 1, _ =>
    rw [pu_actF_1]
    split
    · exact pu_put_ok h (Or.inl rfl)
    · cases am_undF ab (f 2) 9 (kf (am_oaF s.1 (f 1)).toNatClampNeg) with
      | true => exact pu_put_ok h (pu_oa_pl h h1)
      | false => exact h
  | 2, _ =>
    obtain ⟨n, hn, e2⟩ := hn3 (by decide) (by decide)
    rw [pu_actF_2]
    split
    · exact h
    · rename_i hne
      obtain ⟨o, ho, hv⟩ := (pu_oa_pl h h1).resolve_left hne
      refine pu_put_ok h ?_
      rw [hv, e2, nI_clamp (by omega), nI_clamp (by omega)]
      exact h _ (by omega)
  | 3, _ =>
    rw [pu_actF_3]
    split
    · exact h
    · exact pu_put_ok h (pu_oa_pl h h1)
  | 4, _ =>
    obtain ⟨n, hn, e2⟩ := hn3 (by decide) (by decide)
    obtain ⟨z, hz, h7⟩ := hz rfl
    have h7 : am_pl 68 (f 7) := Or.inr ⟨z, by omega, h7⟩
    rw [pu_actF_4]
    split
    · exact h
    · rename_i hne
      obtain ⟨o, ho, hv⟩ := (pu_oa_pl h h1).resolve_left hne
      rw [hv, e2, nI_clamp (by omega), nI_clamp (by omega)]
      unfold pu_clA
      split
      · exact h
      · rename_i hg
        obtain ⟨q, hq, hg2⟩ := (am_aimF_pl hab how hn 9 _ (hk4 o (by omega))).resolve_left hg
        rw [hg2, nI_clamp (by omega)]
        have i1 := pu_put_ok (p := ro (3 * q + 0)) (v := nI o) h (Or.inr ⟨o, ho, rfl⟩)
        have i2 := pu_put_ok (p := ro (3 * q + 1)) (v := am_oaF s.1 (f 7)) i1 (pu_oa_pl h h7)
        split
        · exact i2
        · exact pu_put_ok i2 (pu_oa_pl i2 (am_pl_mono (hro (3 * q + 2) (by omega)) (by decide)))
  | 5, _ =>
    obtain ⟨o, ho, e⟩ := h7 rfl
    refine pu_put_ok h ?_
    rw [e]
    exact Or.inr ⟨o, ho, rfl⟩
section XR
variable {xs : Nat → Int32} {LL : Nat} {σ μ : Nat → Nat → Int32} {sr : Nat → Nat} {ln : Nat → Nat → Int32} {Lc O : Nat}
theorem pu_run_ok {H D : Nat → Int32} (hwf : am_WF σ sr ln Lc) (hob : pu_ob sr ln Lc O) (s : Nat) (hL : 0 < Lc) (h : ∀ q, q < 68 → am_pl O (H q)) : ∀ k q, q < 68 → am_pl O ((am_it (pu_rnS σ sr ln Lc s) (0, H, D) k).2.1 q) := by
  intro k
  induction k with
  | zero => exact h
  | succ k ih =>
    rw [am_itS, pu_rnS_eq rfl]
    have hl : pu_lot s (k + 1) % Lc < Lc := Nat.mod_lt _ hL
    split
    · exact ih
    · exact pu_act_ok (hwf.2.2.2.2.1 _ hl) (hwf.2.2.2.2.2.1 _ hl) (fun h5 => hob.2 _ hl h5) hob.1 hwf.2.2.1 hwf.2.1 hwf.1 hwf.2.2.2.1 ih
theorem sp_X11_seen_ok (d : Nat) (n : Nat) (hn : n < 20) : am_X xs LL (d + 3) 114 [.ref 14, .int (nI n)] (hG σ sr ln Lc μ) (some (.int (σ 41 n))) (hG σ sr ln Lc μ) := by
  refine am_XR (d := d + 2) (C := cd_X11_seen) (L := [some (.ref 14), some (.int (nI n))]) rfl rfl rfl rfl ?_
  refine am_g 1 1 [some (.ref 14), some (.int (nI n))] [.int (nI n)] (hG σ sr ln Lc μ) rfl ?_
  refine am_call (y := 123) (vs := [.int (nI n)]) (rest := []) (v := (some (.int 1))) (h1 := (hG σ sr ln Lc μ)) rfl rfl rfl (sp_X11_isName d _ _ (am_in_of_nI hn (by omega))) ?_
  refine am_g 4 12 [some (.ref 14), some (.int (nI n))] [.int (nI n), .ref 35] (hG σ sr ln Lc μ) rfl ?_
  refine am_call (y := 37) (vs := [.ref 35, .int (nI n)]) (rest := []) (v := (some (.int (σ 41 n)))) (h1 := (hG σ sr ln Lc μ)) rfl rfl rfl (sp_X4_hadAt_k (σ := σ) (μ := μ) (d + 1) n (by omega)) ?_
  refine am_g 1 20 [some (.ref 14), some (.int (nI n))] [.int (σ 41 n)] (hG σ sr ln Lc μ) rfl ?_
  exact am_ret2 rfl rfl rfl rfl rfl
theorem sp_X11_now_ok (d : Nat) (n : Nat) (hn : n < 20) : am_X xs LL (d + 3) 115 [.ref 14, .int (nI n)] (hG σ sr ln Lc μ) (some (.int (σ 40 n))) (hG σ sr ln Lc μ) := by
  refine am_XR (d := d + 2) (C := cd_X11_now) (L := [some (.ref 14), some (.int (nI n))]) rfl rfl rfl rfl ?_
  refine am_g 1 1 [some (.ref 14), some (.int (nI n))] [.int (nI n)] (hG σ sr ln Lc μ) rfl ?_
  refine am_call (y := 123) (vs := [.int (nI n)]) (rest := []) (v := (some (.int 1))) (h1 := (hG σ sr ln Lc μ)) rfl rfl rfl (sp_X11_isName d _ _ (am_in_of_nI hn (by omega))) ?_
  refine am_g 4 12 [some (.ref 14), some (.int (nI n))] [.int (nI n), .ref 35] (hG σ sr ln Lc μ) rfl ?_
  refine am_call (y := 36) (vs := [.ref 35, .int (nI n)]) (rest := []) (v := (some (.int (σ 40 n)))) (h1 := (hG σ sr ln Lc μ)) rfl rfl rfl (sp_X4_objectAt_k (σ := σ) (μ := μ) (d + 1) n (by omega)) ?_
  refine am_g 1 20 [some (.ref 14), some (.int (nI n))] [.int (σ 40 n)] (hG σ sr ln Lc μ) rfl ?_
  exact am_ret2 rfl rfl rfl rfl rfl
theorem sp_X11_seen_bad (d : Nat) (n : Int32) (hb : am_in n 20 = false) : am_X xs LL (d + 3) 114 [.ref 14, .int n] (hG σ sr ln Lc μ) (some (.int (-2))) (hG σ sr ln Lc μ) := by
  refine am_XR (d := d + 2) (C := cd_X11_seen) (L := [some (.ref 14), some (.int n)]) rfl rfl rfl rfl ?_
  refine am_g 1 1 [some (.ref 14), some (.int n)] [.int n] (hG σ sr ln Lc μ) rfl ?_
  refine am_call (y := 123) (vs := [.int n]) (rest := []) (v := (some (.int 0))) (h1 := (hG σ sr ln Lc μ)) rfl rfl rfl (sp_X11_isName d _ _ hb) ?_
  refine am_g 2 20 [some (.ref 14), some (.int n)] [.int (-2)] (hG σ sr ln Lc μ) rfl ?_
  exact am_ret2 rfl rfl rfl rfl rfl
theorem sp_X11_now_bad (d : Nat) (n : Int32) (hb : am_in n 20 = false) : am_X xs LL (d + 3) 115 [.ref 14, .int n] (hG σ sr ln Lc μ) (some (.int (-2))) (hG σ sr ln Lc μ) := by
  refine am_XR (d := d + 2) (C := cd_X11_now) (L := [some (.ref 14), some (.int n)]) rfl rfl rfl rfl ?_
  refine am_g 1 1 [some (.ref 14), some (.int n)] [.int n] (hG σ sr ln Lc μ) rfl ?_
  refine am_call (y := 123) (vs := [.int n]) (rest := []) (v := (some (.int 0))) (h1 := (hG σ sr ln Lc μ)) rfl rfl rfl (sp_X11_isName d _ _ hb) ?_
  refine am_g 2 20 [some (.ref 14), some (.int n)] [.int (-2)] (hG σ sr ln Lc μ) rfl ?_
  exact am_ret2 rfl rfl rfl rfl rfl
theorem sp_X11_run_ok (d : Nat) (hwf : am_WF σ sr ln Lc) (hob : pu_ob sr ln Lc O) (s : Nat) (hs : s < 100000) (n : Nat) (hn : n < 501) (hL0 : 0 < Lc) (hok : ∀ k q, q < 68 → am_pl O ((am_it (pu_rnS σ sr ln Lc s) (0, (am_fill (fun _ => (-1)) (σ 40) 68 0), (am_fill (fun _ => 0) (σ 41) 68 0)) k).2.1 q)) : am_X xs LL (d + 5) 113 [.ref 14, .int (nI s), .int (nI n)] (hG σ sr ln Lc μ) (some (.int (nI (am_it (pu_rnS σ sr ln Lc s) (0, (am_fill (fun _ => (-1)) (σ 40) 68 0), (am_fill (fun _ => 0) (σ 41) 68 0)) n).1))) (hG (am_up (am_up σ 40 (am_it (pu_rnS σ sr ln Lc s) (0, (am_fill (fun _ => (-1)) (σ 40) 68 0), (am_fill (fun _ => 0) (σ 41) 68 0)) n).2.1) 41 (am_it (pu_rnS σ sr ln Lc s) (0, (am_fill (fun _ => (-1)) (σ 40) 68 0), (am_fill (fun _ => 0) (σ 41) 68 0)) n).2.2) sr ln Lc μ) := by
  refine am_XR (d := d + 4) (C := cd_X11_run) (L := [some (.ref 14), some (.int (nI s)), some (.int (nI n)), none, none, none, none, none]) rfl rfl rfl rfl ?_
  have hL : Lc ≤ 40 := hwf.2.2.2.2.2.2
  refine am_g 3 4 [some (.ref 14), some (.int (nI s)), some (.int (nI n)), none, none, none, none, none] [.int 99999, .int 0, .int (nI s)] (hG σ sr ln Lc μ) rfl ?_
  refine am_call (y := 122) (vs := [.int (nI s), .int 0, .int 99999]) (rest := []) (v := (some (.int 1))) (h1 := (hG σ sr ln Lc μ)) rfl rfl rfl (sp_X11_isWithin_b (d + 3) _ _ _ _ (am_wiN (a := 0) (b := 99999) (v := s) (by omega) (by omega) (by omega))) ?_
  refine am_g 4 15 [some (.ref 14), some (.int (nI s)), some (.int (nI n)), none, none, none, none, none] [.int 500, .int 0, .int (nI n)] (hG σ sr ln Lc μ) rfl ?_
  refine am_call (y := 122) (vs := [.int (nI n), .int 0, .int 500]) (rest := []) (v := (some (.int 1))) (h1 := (hG σ sr ln Lc μ)) rfl rfl rfl (sp_X11_isWithin_b (d + 3) _ _ _ _ (am_wiN (a := 0) (b := 500) (v := n) (by omega) (by omega) (by omega))) ?_
  refine am_g 4 (if 0 < (nI Lc) then 34 else 31) [some (.ref 14), some (.int (nI s)), some (.int (nI n)), none, none, none, none, none] [] (hG σ sr ln Lc μ) rfl ?_
  rw [if_pos (show 0 < (nI Lc) from (am_dlt (a := 0) (b := Lc) rfl rfl hL0 (by omega) (by omega)))]
  refine am_g 2 38 [some (.ref 14), some (.int (nI s)), some (.int (nI n)), none, none, none, none, none] [.ref 35] (hG σ sr ln Lc μ) rfl ?_
  refine am_call (y := 35) (vs := [.ref 35]) (rest := []) (v := none) (h1 := (hG (am_up (am_up σ 40 (am_fill (fun _ => (-1)) (σ 40) 68 0)) 41 (am_fill (fun _ => 0) (σ 41) 68 0)) sr ln Lc μ)) rfl rfl rfl (sp_X4_begin (σ := σ) (μ := μ) (d + 2)) ?_
  refine am_g 5 46 [some (.ref 14), some (.int (nI s)), some (.int (nI n)), some (.long (((nI s) + 1).toInt64)), none, none, none, none] [] (hG (am_up (am_up σ 40 (am_fill (fun _ => (-1)) (σ 40) 68 0)) 41 (am_fill (fun _ => 0) (σ 41) 68 0)) sr ln Lc μ) rfl ?_
  rw [show ((nI s) + 1).toInt64 = lN (pu_lot s 0) from by rw [nI_up]; exact nI_l (by omega)]
  refine am_g 4 52 [some (.ref 14), some (.int (nI s)), some (.int (nI n)), some (.long (lN (pu_lot s 0))), none, some (.int 0), some (.int 0), none] [] (hG (am_up (am_up σ 40 (am_fill (fun _ => (-1)) (σ 40) 68 0)) 41 (am_fill (fun _ => 0) (σ 41) 68 0)) sr ln Lc μ) rfl ?_
  have lp : ∀ (r k : Nat) (w : Option Value), k + r = n → am_R xs LL cd_X11_run (am_X xs LL (d + 4)) 52 [some (.ref 14), some (.int (nI s)), some (.int (nI n)), some (.long (lN (pu_lot s k))), none, some (.int (nI (am_it (pu_rnS σ sr ln Lc s) (0, (am_fill (fun _ => (-1)) (σ 40) 68 0), (am_fill (fun _ => 0) (σ 41) 68 0)) k).1)), some (.int (nI k)), w] [] (hG (am_up (am_up σ 40 (am_it (pu_rnS σ sr ln Lc s) (0, (am_fill (fun _ => (-1)) (σ 40) 68 0), (am_fill (fun _ => 0) (σ 41) 68 0)) k).2.1) 41 (am_it (pu_rnS σ sr ln Lc s) (0, (am_fill (fun _ => (-1)) (σ 40) 68 0), (am_fill (fun _ => 0) (σ 41) 68 0)) k).2.2) sr ln Lc μ) (some (.int (nI (am_it (pu_rnS σ sr ln Lc s) (0, (am_fill (fun _ => (-1)) (σ 40) 68 0), (am_fill (fun _ => 0) (σ 41) 68 0)) n).1))) (hG (am_up (am_up σ 40 (am_it (pu_rnS σ sr ln Lc s) (0, (am_fill (fun _ => (-1)) (σ 40) 68 0), (am_fill (fun _ => 0) (σ 41) 68 0)) n).2.1) 41 (am_it (pu_rnS σ sr ln Lc s) (0, (am_fill (fun _ => (-1)) (σ 40) 68 0), (am_fill (fun _ => 0) (σ 41) 68 0)) n).2.2) sr ln Lc μ) := by
    intro r
    induction r with
    | zero =>
      intro k w hi
      have hi2 : k = n := by omega
      rw [hi2]
      refine am_g 3 (if (nI n) ≤ (nI n) then 116 else 58) [some (.ref 14), some (.int (nI s)), some (.int (nI n)), some (.long (lN (pu_lot s n))), none, some (.int (nI (am_it (pu_rnS σ sr ln Lc s) (0, (am_fill (fun _ => (-1)) (σ 40) 68 0), (am_fill (fun _ => 0) (σ 41) 68 0)) n).1)), some (.int (nI n)), w] [] (hG (am_up (am_up σ 40 (am_it (pu_rnS σ sr ln Lc s) (0, (am_fill (fun _ => (-1)) (σ 40) 68 0), (am_fill (fun _ => 0) (σ 41) 68 0)) n).2.1) 41 (am_it (pu_rnS σ sr ln Lc s) (0, (am_fill (fun _ => (-1)) (σ 40) 68 0), (am_fill (fun _ => 0) (σ 41) 68 0)) n).2.2) sr ln Lc μ) rfl ?_
      rw [if_pos (show (nI n) ≤ (nI n) from (am_dle (a := n) (b := n) (rfl) (rfl) (by omega) (by omega) (by omega)))]
      refine am_g 1 118 [some (.ref 14), some (.int (nI s)), some (.int (nI n)), some (.long (lN (pu_lot s n))), none, some (.int (nI (am_it (pu_rnS σ sr ln Lc s) (0, (am_fill (fun _ => (-1)) (σ 40) 68 0), (am_fill (fun _ => 0) (σ 41) 68 0)) n).1)), some (.int (nI n)), w] [.int (nI (am_it (pu_rnS σ sr ln Lc s) (0, (am_fill (fun _ => (-1)) (σ 40) 68 0), (am_fill (fun _ => 0) (σ 41) 68 0)) n).1)] (hG (am_up (am_up σ 40 (am_it (pu_rnS σ sr ln Lc s) (0, (am_fill (fun _ => (-1)) (σ 40) 68 0), (am_fill (fun _ => 0) (σ 41) 68 0)) n).2.1) 41 (am_it (pu_rnS σ sr ln Lc s) (0, (am_fill (fun _ => (-1)) (σ 40) 68 0), (am_fill (fun _ => 0) (σ 41) 68 0)) n).2.2) sr ln Lc μ) rfl ?_
      exact am_ret2 rfl rfl rfl rfl rfl
    | succ r ih =>
      intro k w hi
      have hi2 : k < n := by omega
      refine am_g 3 (if (nI n) ≤ (nI k) then 116 else 58) [some (.ref 14), some (.int (nI s)), some (.int (nI n)), some (.long (lN (pu_lot s k))), none, some (.int (nI (am_it (pu_rnS σ sr ln Lc s) (0, (am_fill (fun _ => (-1)) (σ 40) 68 0), (am_fill (fun _ => 0) (σ 41) 68 0)) k).1)), some (.int (nI k)), w] [] (hG (am_up (am_up σ 40 (am_it (pu_rnS σ sr ln Lc s) (0, (am_fill (fun _ => (-1)) (σ 40) 68 0), (am_fill (fun _ => 0) (σ 41) 68 0)) k).2.1) 41 (am_it (pu_rnS σ sr ln Lc s) (0, (am_fill (fun _ => (-1)) (σ 40) 68 0), (am_fill (fun _ => 0) (σ 41) 68 0)) k).2.2) sr ln Lc μ) rfl ?_
      rw [if_neg (show ¬ (nI n) ≤ (nI k) from (am_dnle (a := n) (b := k) (rfl) (rfl) (by omega) (by omega) (by omega)))]
      have hlk := pu_lot_lt hs k
      refine am_g 4 66 [some (.ref 14), some (.int (nI s)), some (.int (nI n)), some (.long (lN (pu_lot s k))), none, some (.int (nI (am_it (pu_rnS σ sr ln Lc s) (0, (am_fill (fun _ => (-1)) (σ 40) 68 0), (am_fill (fun _ => 0) (σ 41) 68 0)) k).1)), some (.int (nI k)), w] [.long 2147483647, .long ((lN (pu_lot s k)) * 48271)] (hG (am_up (am_up σ 40 (am_it (pu_rnS σ sr ln Lc s) (0, (am_fill (fun _ => (-1)) (σ 40) 68 0), (am_fill (fun _ => 0) (σ 41) 68 0)) k).2.1) 41 (am_it (pu_rnS σ sr ln Lc s) (0, (am_fill (fun _ => (-1)) (σ 40) 68 0), (am_fill (fun _ => 0) (σ 41) 68 0)) k).2.2) sr ln Lc μ) rfl ?_
      refine am_lremR (a := ((pu_lot s k) * 48271)) (b := 2147483647) rfl ((by rw [show (48271 : Int64) = lN 48271 from rfl, lN_mul])) (rfl) (by omega) (by omega) (by omega) ?_
      refine am_g 6 75 [some (.ref 14), some (.int (nI s)), some (.int (nI n)), some (.long (lN (((pu_lot s k) * 48271) % 2147483647))), none, some (.int (nI (am_it (pu_rnS σ sr ln Lc s) (0, (am_fill (fun _ => (-1)) (σ 40) 68 0), (am_fill (fun _ => 0) (σ 41) 68 0)) k).1)), some (.int (nI k)), w] [.long ((nI Lc).toInt64), .long (lN (((pu_lot s k) * 48271) % 2147483647)), .ref 14] (hG (am_up (am_up σ 40 (am_it (pu_rnS σ sr ln Lc s) (0, (am_fill (fun _ => (-1)) (σ 40) 68 0), (am_fill (fun _ => 0) (σ 41) 68 0)) k).2.1) 41 (am_it (pu_rnS σ sr ln Lc s) (0, (am_fill (fun _ => (-1)) (σ 40) 68 0), (am_fill (fun _ => 0) (σ 41) 68 0)) k).2.2) sr ln Lc μ) rfl ?_
      refine am_lremR (a := (((pu_lot s k) * 48271) % 2147483647)) (b := Lc) rfl (rfl) ((nI_l (by omega))) (by omega) (by omega) (by omega) ?_
      refine am_g 1 77 [some (.ref 14), some (.int (nI s)), some (.int (nI n)), some (.long (lN (((pu_lot s k) * 48271) % 2147483647))), none, some (.int (nI (am_it (pu_rnS σ sr ln Lc s) (0, (am_fill (fun _ => (-1)) (σ 40) 68 0), (am_fill (fun _ => 0) (σ 41) 68 0)) k).1)), some (.int (nI k)), w] [.int ((lN ((((pu_lot s k) * 48271) % 2147483647) % Lc)).toInt32), .ref 14] (hG (am_up (am_up σ 40 (am_it (pu_rnS σ sr ln Lc s) (0, (am_fill (fun _ => (-1)) (σ 40) 68 0), (am_fill (fun _ => 0) (σ 41) 68 0)) k).2.1) 41 (am_it (pu_rnS σ sr ln Lc s) (0, (am_fill (fun _ => (-1)) (σ 40) 68 0), (am_fill (fun _ => 0) (σ 41) 68 0)) k).2.2) sr ln Lc μ) rfl ?_
      rw [lN_i]
      generalize hl : ((((pu_lot s k) * 48271) % 2147483647) % Lc) = l
      have hl2 : l < Lc := by rw [← hl]; exact Nat.mod_lt _ hL0
      refine am_call (y := 128) (vs := [.ref 14, .int (nI l)]) (rest := []) (v := (some (.ref (75 + l)))) (h1 := (hG (am_up (am_up σ 40 (am_it (pu_rnS σ sr ln Lc s) (0, (am_fill (fun _ => (-1)) (σ 40) 68 0), (am_fill (fun _ => 0) (σ 41) 68 0)) k).2.1) 41 (am_it (pu_rnS σ sr ln Lc s) (0, (am_fill (fun _ => (-1)) (σ 40) 68 0), (am_fill (fun _ => 0) (σ 41) 68 0)) k).2.2) sr ln Lc μ)) rfl rfl rfl (sp_X11_lineAt_ok (σ := (am_up (am_up σ 40 (am_it (pu_rnS σ sr ln Lc s) (0, (am_fill (fun _ => (-1)) (σ 40) 68 0), (am_fill (fun _ => 0) (σ 41) 68 0)) k).2.1) 41 (am_it (pu_rnS σ sr ln Lc s) (0, (am_fill (fun _ => (-1)) (σ 40) 68 0), (am_fill (fun _ => 0) (σ 41) 68 0)) k).2.2)) (μ := μ) (d + 3) l hl2 hL) ?_
      refine am_g 2 84 [some (.ref 14), some (.int (nI s)), some (.int (nI n)), some (.long (lN (((pu_lot s k) * 48271) % 2147483647))), none, some (.int (nI (am_it (pu_rnS σ sr ln Lc s) (0, (am_fill (fun _ => (-1)) (σ 40) 68 0), (am_fill (fun _ => 0) (σ 41) 68 0)) k).1)), some (.int (nI k)), some (.ref (75 + l))] [.ref (75 + l)] (hG (am_up (am_up σ 40 (am_it (pu_rnS σ sr ln Lc s) (0, (am_fill (fun _ => (-1)) (σ 40) 68 0), (am_fill (fun _ => 0) (σ 41) 68 0)) k).2.1) 41 (am_it (pu_rnS σ sr ln Lc s) (0, (am_fill (fun _ => (-1)) (σ 40) 68 0), (am_fill (fun _ => 0) (σ 41) 68 0)) k).2.2) sr ln Lc μ) rfl ?_
      refine am_lnnR rfl _ ?_
      refine am_g 1 89 [some (.ref 14), some (.int (nI s)), some (.int (nI n)), some (.long (lN (((pu_lot s k) * 48271) % 2147483647))), none, some (.int (nI (am_it (pu_rnS σ sr ln Lc s) (0, (am_fill (fun _ => (-1)) (σ 40) 68 0), (am_fill (fun _ => 0) (σ 41) 68 0)) k).1)), some (.int (nI k)), some (.ref (75 + l))] [.ref (75 + l)] (hG (am_up (am_up σ 40 (am_it (pu_rnS σ sr ln Lc s) (0, (am_fill (fun _ => (-1)) (σ 40) 68 0), (am_fill (fun _ => 0) (σ 41) 68 0)) k).2.1) 41 (am_it (pu_rnS σ sr ln Lc s) (0, (am_fill (fun _ => (-1)) (σ 40) 68 0), (am_fill (fun _ => 0) (σ 41) 68 0)) k).2.2) sr ln Lc μ) rfl ?_
      refine am_lgetR (i := l) (k := 6) rfl hl2 (by decide) (am_lkx (by decide) (hwf.2.2.2.2.1 _ hl2)) ?_
      refine am_g 1 (if (ln l 6) = 0 then 110 else 95) [some (.ref 14), some (.int (nI s)), some (.int (nI n)), some (.long (lN (((pu_lot s k) * 48271) % 2147483647))), none, some (.int (nI (am_it (pu_rnS σ sr ln Lc s) (0, (am_fill (fun _ => (-1)) (σ 40) 68 0), (am_fill (fun _ => 0) (σ 41) 68 0)) k).1)), some (.int (nI k)), some (.ref (75 + l))] [] (hG (am_up (am_up σ 40 (am_it (pu_rnS σ sr ln Lc s) (0, (am_fill (fun _ => (-1)) (σ 40) 68 0), (am_fill (fun _ => 0) (σ 41) 68 0)) k).2.1) 41 (am_it (pu_rnS σ sr ln Lc s) (0, (am_fill (fun _ => (-1)) (σ 40) 68 0), (am_fill (fun _ => 0) (σ 41) 68 0)) k).2.2) sr ln Lc μ) rfl (am_brR (fun c1 => ?_) (fun c1 => ?_))
      · skip
        refine am_g 2 52 [some (.ref 14), some (.int (nI s)), some (.int (nI n)), some (.long (lN (((pu_lot s k) * 48271) % 2147483647))), none, some (.int (nI (am_it (pu_rnS σ sr ln Lc s) (0, (am_fill (fun _ => (-1)) (σ 40) 68 0), (am_fill (fun _ => 0) (σ 41) 68 0)) k).1)), some (.int ((nI k) + 1)), some (.ref (75 + l))] [] (hG (am_up (am_up σ 40 (am_it (pu_rnS σ sr ln Lc s) (0, (am_fill (fun _ => (-1)) (σ 40) 68 0), (am_fill (fun _ => 0) (σ 41) 68 0)) k).2.1) 41 (am_it (pu_rnS σ sr ln Lc s) (0, (am_fill (fun _ => (-1)) (σ 40) 68 0), (am_fill (fun _ => 0) (σ 41) 68 0)) k).2.2) sr ln Lc μ) rfl ?_
        have q : (am_it (pu_rnS σ sr ln Lc s) (0, (am_fill (fun _ => (-1)) (σ 40) 68 0), (am_fill (fun _ => 0) (σ 41) 68 0)) (k + 1)) = (am_it (pu_rnS σ sr ln Lc s) (0, (am_fill (fun _ => (-1)) (σ 40) 68 0), (am_fill (fun _ => 0) (σ 41) 68 0)) k) := by rw [am_itS, pu_rnS_eq hl]; exact if_pos c1
        have kk := ih (k + 1) (some (.ref (75 + l))) (by omega)
        rw [q] at kk
        rw [nI_up]
        exact kk
      · skip
        refine am_g 3 101 [some (.ref 14), some (.int (nI s)), some (.int (nI n)), some (.long (lN (((pu_lot s k) * 48271) % 2147483647))), none, some (.int (nI (am_it (pu_rnS σ sr ln Lc s) (0, (am_fill (fun _ => (-1)) (σ 40) 68 0), (am_fill (fun _ => 0) (σ 41) 68 0)) k).1)), some (.int (nI k)), some (.ref (75 + l))] [.ref 35, .ref (75 + l)] (hG (am_up (am_up σ 40 (am_it (pu_rnS σ sr ln Lc s) (0, (am_fill (fun _ => (-1)) (σ 40) 68 0), (am_fill (fun _ => 0) (σ 41) 68 0)) k).2.1) 41 (am_it (pu_rnS σ sr ln Lc s) (0, (am_fill (fun _ => (-1)) (σ 40) 68 0), (am_fill (fun _ => 0) (σ 41) 68 0)) k).2.2) sr ln Lc μ) rfl ?_
        cases e2 : (pu_actF (σ 4) (σ 1) (σ 2) (σ 3) (sr l) (ln l) (am_it (pu_rnS σ sr ln Lc s) (0, (am_fill (fun _ => (-1)) (σ 40) 68 0), (am_fill (fun _ => 0) (σ 41) 68 0)) k).2).1 with
        | false =>
          refine am_call (y := ([19, 11, 50, 86, 6, 44].getD (sr l) 0)) (vs := [.ref (75 + l), .ref 35]) (rest := []) (v := (some (.int 0))) (h1 := (hG (am_up (am_up σ 40 (pu_actF (σ 4) (σ 1) (σ 2) (σ 3) (sr l) (ln l) (am_it (pu_rnS σ sr ln Lc s) (0, (am_fill (fun _ => (-1)) (σ 40) 68 0), (am_fill (fun _ => 0) (σ 41) 68 0)) k).2).2.1) 41 (pu_actF (σ 4) (σ 1) (σ 2) (σ 3) (sr l) (ln l) (am_it (pu_rnS σ sr ln Lc s) (0, (am_fill (fun _ => (-1)) (σ 40) 68 0), (am_fill (fun _ => 0) (σ 41) 68 0)) k).2).2.2) sr ln Lc μ)) rfl rfl (am_tgtL (i := l) rfl rfl hl2 (am_lk (f := fun s => [19, 11, 50, 86, 6, 44].getD s 0) (by decide) (hwf.2.2.2.2.1 _ hl2)) rfl rfl) (sp_act_v (σ := (am_up (am_up σ 40 (am_it (pu_rnS σ sr ln Lc s) (0, (am_fill (fun _ => (-1)) (σ 40) 68 0), (am_fill (fun _ => 0) (σ 41) 68 0)) k).2.1) 41 (am_it (pu_rnS σ sr ln Lc s) (0, (am_fill (fun _ => (-1)) (σ 40) 68 0), (am_fill (fun _ => 0) (σ 41) 68 0)) k).2.2)) (μ := μ) (d + 1) l hl2 (hwf.2.2.2.2.1 l hl2) (hwf.2.2.2.2.2.1 l hl2) hwf.1 hwf.2.1 hwf.2.2.1 hwf.2.2.2.1 (fun q hq => am_pl_mono (hok k q hq) hob.1) e2) ?_
          refine am_g 3 52 [some (.ref 14), some (.int (nI s)), some (.int (nI n)), some (.long (lN (((pu_lot s k) * 48271) % 2147483647))), none, some (.int (nI (am_it (pu_rnS σ sr ln Lc s) (0, (am_fill (fun _ => (-1)) (σ 40) 68 0), (am_fill (fun _ => 0) (σ 41) 68 0)) k).1)), some (.int ((nI k) + 1)), some (.ref (75 + l))] [] (hG (am_up (am_up σ 40 (pu_actF (σ 4) (σ 1) (σ 2) (σ 3) (sr l) (ln l) (am_it (pu_rnS σ sr ln Lc s) (0, (am_fill (fun _ => (-1)) (σ 40) 68 0), (am_fill (fun _ => 0) (σ 41) 68 0)) k).2).2.1) 41 (pu_actF (σ 4) (σ 1) (σ 2) (σ 3) (sr l) (ln l) (am_it (pu_rnS σ sr ln Lc s) (0, (am_fill (fun _ => (-1)) (σ 40) 68 0), (am_fill (fun _ => 0) (σ 41) 68 0)) k).2).2.2) sr ln Lc μ) rfl ?_
          have q : (am_it (pu_rnS σ sr ln Lc s) (0, (am_fill (fun _ => (-1)) (σ 40) 68 0), (am_fill (fun _ => 0) (σ 41) 68 0)) (k + 1)) = ((am_it (pu_rnS σ sr ln Lc s) (0, (am_fill (fun _ => (-1)) (σ 40) 68 0), (am_fill (fun _ => 0) (σ 41) 68 0)) k).1, (pu_actF (σ 4) (σ 1) (σ 2) (σ 3) (sr l) (ln l) (am_it (pu_rnS σ sr ln Lc s) (0, (am_fill (fun _ => (-1)) (σ 40) 68 0), (am_fill (fun _ => 0) (σ 41) 68 0)) k).2).2.1, (pu_actF (σ 4) (σ 1) (σ 2) (σ 3) (sr l) (ln l) (am_it (pu_rnS σ sr ln Lc s) (0, (am_fill (fun _ => (-1)) (σ 40) 68 0), (am_fill (fun _ => 0) (σ 41) 68 0)) k).2).2.2) := by rw [am_itS, pu_rnS_eq hl, if_neg c1, e2]; rfl
          have kk := ih (k + 1) (some (.ref (75 + l))) (by omega)
          rw [q] at kk
          rw [nI_up]
          exact kk
        | true =>
          refine am_call (y := ([19, 11, 50, 86, 6, 44].getD (sr l) 0)) (vs := [.ref (75 + l), .ref 35]) (rest := []) (v := (some (.int 1))) (h1 := (hG (am_up (am_up σ 40 (pu_actF (σ 4) (σ 1) (σ 2) (σ 3) (sr l) (ln l) (am_it (pu_rnS σ sr ln Lc s) (0, (am_fill (fun _ => (-1)) (σ 40) 68 0), (am_fill (fun _ => 0) (σ 41) 68 0)) k).2).2.1) 41 (pu_actF (σ 4) (σ 1) (σ 2) (σ 3) (sr l) (ln l) (am_it (pu_rnS σ sr ln Lc s) (0, (am_fill (fun _ => (-1)) (σ 40) 68 0), (am_fill (fun _ => 0) (σ 41) 68 0)) k).2).2.2) sr ln Lc μ)) rfl rfl (am_tgtL (i := l) rfl rfl hl2 (am_lk (f := fun s => [19, 11, 50, 86, 6, 44].getD s 0) (by decide) (hwf.2.2.2.2.1 _ hl2)) rfl rfl) (sp_act_v (σ := (am_up (am_up σ 40 (am_it (pu_rnS σ sr ln Lc s) (0, (am_fill (fun _ => (-1)) (σ 40) 68 0), (am_fill (fun _ => 0) (σ 41) 68 0)) k).2.1) 41 (am_it (pu_rnS σ sr ln Lc s) (0, (am_fill (fun _ => (-1)) (σ 40) 68 0), (am_fill (fun _ => 0) (σ 41) 68 0)) k).2.2)) (μ := μ) (d + 1) l hl2 (hwf.2.2.2.2.1 l hl2) (hwf.2.2.2.2.2.1 l hl2) hwf.1 hwf.2.1 hwf.2.2.1 hwf.2.2.2.1 (fun q hq => am_pl_mono (hok k q hq) hob.1) e2) ?_
          refine am_g 4 52 [some (.ref 14), some (.int (nI s)), some (.int (nI n)), some (.long (lN (((pu_lot s k) * 48271) % 2147483647))), none, some (.int ((nI (am_it (pu_rnS σ sr ln Lc s) (0, (am_fill (fun _ => (-1)) (σ 40) 68 0), (am_fill (fun _ => 0) (σ 41) 68 0)) k).1) + 1)), some (.int ((nI k) + 1)), some (.ref (75 + l))] [] (hG (am_up (am_up σ 40 (pu_actF (σ 4) (σ 1) (σ 2) (σ 3) (sr l) (ln l) (am_it (pu_rnS σ sr ln Lc s) (0, (am_fill (fun _ => (-1)) (σ 40) 68 0), (am_fill (fun _ => 0) (σ 41) 68 0)) k).2).2.1) 41 (pu_actF (σ 4) (σ 1) (σ 2) (σ 3) (sr l) (ln l) (am_it (pu_rnS σ sr ln Lc s) (0, (am_fill (fun _ => (-1)) (σ 40) 68 0), (am_fill (fun _ => 0) (σ 41) 68 0)) k).2).2.2) sr ln Lc μ) rfl ?_
          have q : (am_it (pu_rnS σ sr ln Lc s) (0, (am_fill (fun _ => (-1)) (σ 40) 68 0), (am_fill (fun _ => 0) (σ 41) 68 0)) (k + 1)) = (((am_it (pu_rnS σ sr ln Lc s) (0, (am_fill (fun _ => (-1)) (σ 40) 68 0), (am_fill (fun _ => 0) (σ 41) 68 0)) k).1 + 1), (pu_actF (σ 4) (σ 1) (σ 2) (σ 3) (sr l) (ln l) (am_it (pu_rnS σ sr ln Lc s) (0, (am_fill (fun _ => (-1)) (σ 40) 68 0), (am_fill (fun _ => 0) (σ 41) 68 0)) k).2).2.1, (pu_actF (σ 4) (σ 1) (σ 2) (σ 3) (sr l) (ln l) (am_it (pu_rnS σ sr ln Lc s) (0, (am_fill (fun _ => (-1)) (σ 40) 68 0), (am_fill (fun _ => 0) (σ 41) 68 0)) k).2).2.2) := by rw [am_itS, pu_rnS_eq hl, if_neg c1, e2]; rfl
          have kk := ih (k + 1) (some (.ref (75 + l))) (by omega)
          rw [q] at kk
          rw [nI_up]; rw [nI_up]
          exact kk
  exact lp n 0 none (by omega)
theorem sp_X11_run_bad (d : Nat) (s n : Int32) (hbad : (decide ((0 : Int32) ≤ s ∧ s ≤ 99999) && decide ((0 : Int32) ≤ n ∧ n ≤ 500)) = false) : am_X xs LL (d + 3) 113 [.ref 14, .int s, .int n] (hG σ sr ln Lc μ) (some (.int (-2))) (hG σ sr ln Lc μ) := by
  refine am_XR (d := d + 2) (C := cd_X11_run) (L := [some (.ref 14), some (.int s), some (.int n), none, none, none, none, none]) rfl rfl rfl rfl ?_
  refine am_g 3 4 [some (.ref 14), some (.int s), some (.int n), none, none, none, none, none] [.int 99999, .int 0, .int s] (hG σ sr ln Lc μ) rfl ?_
  cases e1 : decide (0 ≤ s ∧ s ≤ 99999) with
  | false =>
    refine am_call (y := 122) (vs := [.int s, .int 0, .int 99999]) (rest := []) (v := (some (.int 0))) (h1 := (hG σ sr ln Lc μ)) rfl rfl rfl (sp_X11_isWithin_b (d + 1) _ _ _ _ e1) ?_
    refine am_g 2 23 [some (.ref 14), some (.int s), some (.int n), none, none, none, none, none] [.int (-2)] (hG σ sr ln Lc μ) rfl ?_
    exact am_ret2 rfl rfl rfl rfl rfl
  | true =>
    refine am_call (y := 122) (vs := [.int s, .int 0, .int 99999]) (rest := []) (v := (some (.int 1))) (h1 := (hG σ sr ln Lc μ)) rfl rfl rfl (sp_X11_isWithin_b (d + 1) _ _ _ _ e1) ?_
    refine am_g 4 15 [some (.ref 14), some (.int s), some (.int n), none, none, none, none, none] [.int 500, .int 0, .int n] (hG σ sr ln Lc μ) rfl ?_
    cases e2 : decide (0 ≤ n ∧ n ≤ 500) with
    | false =>
      refine am_call (y := 122) (vs := [.int n, .int 0, .int 500]) (rest := []) (v := (some (.int 0))) (h1 := (hG σ sr ln Lc μ)) rfl rfl rfl (sp_X11_isWithin_b (d + 1) _ _ _ _ e2) ?_
      refine am_g 2 23 [some (.ref 14), some (.int s), some (.int n), none, none, none, none, none] [.int (-2)] (hG σ sr ln Lc μ) rfl ?_
      exact am_ret2 rfl rfl rfl rfl rfl
    | true =>
      refine am_call (y := 122) (vs := [.int n, .int 0, .int 500]) (rest := []) (v := (some (.int 1))) (h1 := (hG σ sr ln Lc μ)) rfl rfl rfl (sp_X11_isWithin_b (d + 1) _ _ _ _ e2) ?_
      refine am_g 1 24 [some (.ref 14), some (.int s), some (.int n), none, none, none, none, none] [] (hG σ sr ln Lc μ) rfl ?_
      rw [e1, e2] at hbad
      cases hbad
theorem sp_X11_run_state (d : Nat) (s n : Int32) (h1 : decide ((0 : Int32) ≤ s ∧ s ≤ 99999) = true) (h2 : decide ((0 : Int32) ≤ n ∧ n ≤ 500) = true) (h0 : Lc = 0) : am_X xs LL (d + 3) 113 [.ref 14, .int s, .int n] (hG σ sr ln Lc μ) (some (.int (-3))) (hG σ sr ln Lc μ) := by
  refine am_XR (d := d + 2) (C := cd_X11_run) (L := [some (.ref 14), some (.int s), some (.int n), none, none, none, none, none]) rfl rfl rfl rfl ?_
  refine am_g 3 4 [some (.ref 14), some (.int s), some (.int n), none, none, none, none, none] [.int 99999, .int 0, .int s] (hG σ sr ln Lc μ) rfl ?_
  refine am_call (y := 122) (vs := [.int s, .int 0, .int 99999]) (rest := []) (v := (some (.int 1))) (h1 := (hG σ sr ln Lc μ)) rfl rfl rfl (sp_X11_isWithin_b (d + 1) _ _ _ _ h1) ?_
  refine am_g 4 15 [some (.ref 14), some (.int s), some (.int n), none, none, none, none, none] [.int 500, .int 0, .int n] (hG σ sr ln Lc μ) rfl ?_
  refine am_call (y := 122) (vs := [.int n, .int 0, .int 500]) (rest := []) (v := (some (.int 1))) (h1 := (hG σ sr ln Lc μ)) rfl rfl rfl (sp_X11_isWithin_b (d + 1) _ _ _ _ h2) ?_
  refine am_g 4 (if 0 < (nI Lc) then 34 else 31) [some (.ref 14), some (.int s), some (.int n), none, none, none, none, none] [] (hG σ sr ln Lc μ) rfl ?_
  rw [if_neg (show ¬ 0 < (nI Lc) from (by rw [h0]; decide))]
  refine am_g 1 33 [some (.ref 14), some (.int s), some (.int n), none, none, none, none, none] [.int (-3)] (hG σ sr ln Lc μ) rfl ?_
  exact am_ret2 rfl rfl rfl rfl rfl
end XR
