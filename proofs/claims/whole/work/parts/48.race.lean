/-! races -/
def pu_tch (sr : Nat → Nat) (ln : Nat → Nat → Int32) (i : Nat) : Int32 := if (sr i) = 2 then ln i 1 else if (sr i) = 3 then ln i 0 else -1
def pu_rcB (sr : Nat → Nat) (ln : Nat → Nat → Int32) (H : Nat → Int32) (a b : Nat) : Bool := decide (¬ ln a 6 = 0 ∧ ¬ ln b 6 = 0 ∧ ¬ ln a 3 = ln b 3 ∧ (sr a = 3 ∨ sr b = 3) ∧ ¬ pu_tch sr ln a = -1 ∧ ¬ pu_tch sr ln b = -1 ∧ ln a 2 = ln b 2 ∧ (ln a 4 = 0 ∨ ¬ ln a 4 = ln b 4) ∧ ¬ am_hat H (pu_tch sr ln a) &&& am_hat H (pu_tch sr ln b) = 0)
def pu_mvB (sr : Nat → Nat) (ln : Nat → Nat → Int32) (i : Nat) : Bool := decide (¬ ln i 6 = 0 ∧ (sr i = 2 ∨ sr i = 3))
def pu_bsF (sr : Nat → Nat) (ln : Nat → Nat → Int32) (H : Nat → Int32) (i : Nat) : Int32 := am_hat H (if sr i = 2 then ln i 1 else ln i 0)
def pu_rmB (sr : Nat → Nat) (ln : Nat → Nat → Int32) (H : Nat → Int32) (a b : Nat) : Bool := decide (pu_mvB sr ln a = true ∧ pu_mvB sr ln b = true ∧ ¬ (sr a = 2 ∧ sr b = 2) ∧ ¬ ln a 3 = ln b 3 ∧ ln a 2 = ln b 2 ∧ ¬ pu_bsF sr ln H a &&& pu_bsF sr ln H b = 0 ∧ (ln a 4 = 0 ∨ ¬ ln a 4 = ln b 4))
def pu_ri (p : Nat → Nat → Bool) (x : Int32) (a : Nat) : Nat → Nat → Nat → Int32 ⊕ Nat
  | 0, _, n => .inr n
  | r + 1, b, n => if p a b then (if nI n = x then .inl (nI (100 * a + b)) else pu_ri p x a r (b + 1) (n + 1)) else pu_ri p x a r (b + 1) n
def pu_ro (p : Nat → Nat → Bool) (x : Int32) (Lc : Nat) : Nat → Nat → Nat → Int32
  | 0, _, n => if x = -1 then nI n else -1
  | r + 1, a, n => match pu_ri p x a (Lc - (a + 1)) (a + 1) n with
    | .inl v => v
    | .inr m => pu_ro p x Lc r (a + 1) m
def pu_rk (p : Nat → Nat → Bool) (x : Int32) (Lc r a : Nat) (e : Int32 ⊕ Nat) : Int32 := match e with
  | .inl v => v
  | .inr m => pu_ro p x Lc r (a + 1) m
theorem pu_ri_f {p : Nat → Nat → Bool} {x : Int32} {a r b n : Nat} (h : p a b = false) : pu_ri p x a (r + 1) b n = pu_ri p x a r (b + 1) n := if_neg (by rw [h]; decide)
theorem pu_ri_t1 {p : Nat → Nat → Bool} {x : Int32} {a r b n : Nat} (h : p a b = true) (h2 : nI n = x) : pu_ri p x a (r + 1) b n = .inl (nI (100 * a + b)) := (if_pos h).trans (if_pos h2)
theorem pu_ri_t2 {p : Nat → Nat → Bool} {x : Int32} {a r b n : Nat} (h : p a b = true) (h2 : ¬ nI n = x) : pu_ri p x a (r + 1) b n = pu_ri p x a r (b + 1) (n + 1) := (if_pos h).trans (if_neg h2)
theorem pu_ri_congr {p q : Nat → Nat → Bool} {x : Int32} {a Lc : Nat} (h : ∀ b, a < b → b < Lc → p a b = q a b) : ∀ r b n, a < b → b + r = Lc → pu_ri p x a r b n = pu_ri q x a r b n := by
  intro r
  induction r with
  | zero => intro b n _ _; rfl
  | succ r ih =>
    intro b n hb hr
    have e := h b hb (by omega)
    cases hp : p a b with
    | true =>
      by_cases h2 : nI n = x
      · rw [pu_ri_t1 hp h2, pu_ri_t1 (e.symm.trans hp) h2]
      · rw [pu_ri_t2 hp h2, pu_ri_t2 (e.symm.trans hp) h2]; exact ih _ _ (by omega) (by omega)
    | false => rw [pu_ri_f hp, pu_ri_f (e.symm.trans hp)]; exact ih _ _ (by omega) (by omega)
theorem pu_ro_congr {p q : Nat → Nat → Bool} {x : Int32} {Lc : Nat} (h : ∀ a b, a < b → b < Lc → p a b = q a b) : ∀ r a n, a + r = Lc → pu_ro p x Lc r a n = pu_ro q x Lc r a n := by
  intro r
  induction r with
  | zero => intro a n _; rfl
  | succ r ih =>
    intro a n hr
    show (match pu_ri p x a (Lc - (a + 1)) (a + 1) n with
      | .inl v => v
      | .inr m => pu_ro p x Lc r (a + 1) m) = (match pu_ri q x a (Lc - (a + 1)) (a + 1) n with
      | .inl v => v
      | .inr m => pu_ro q x Lc r (a + 1) m)
    rw [pu_ri_congr (h a) _ _ _ (by omega) (by omega)]
    cases pu_ri q x a (Lc - (a + 1)) (a + 1) n with
    | inl v => rfl
    | inr m => exact ih _ _ (by omega)
theorem pu_ins3 {s : Nat} (hs : s < 6) : [false, false, false, true, false, false].getD s false = decide (s = 3) := by
  match s, hs with
  | 0, _ => rfl
  | 1, _ => rfl
  | 2, _ => rfl
  | 3, _ => rfl
  | 4, _ => rfl
  | 5, _ => rfl
theorem pu_tch_pl {sr : Nat → Nat} {ln : Nat → Nat → Int32} {i : Nat} (hw : am_wl (sr i) (ln i)) : am_pl 68 (pu_tch sr ln i) := by
  obtain ⟨⟨a, ha, h0⟩, h1, -⟩ := hw
  unfold pu_tch
  split
  · exact am_pl_mono h1 (by decide)
  · split
    · exact Or.inr ⟨a, by omega, h0⟩
    · exact Or.inl rfl
theorem am_b2N {P : Prop} [Decidable P] {z : Bool} (eb : decide P = z) (h : ¬ P) : (some (.int 0) : Option Value) = some (.int (am_b2 z)) := by subst eb; rw [decide_eq_false h]; rfl
theorem am_b2Y {P : Prop} [Decidable P] {z : Bool} (eb : decide P = z) (h : P) : (some (.int 1) : Option Value) = some (.int (am_b2 z)) := by subst eb; rw [decide_eq_true h]; rfl
section RC
variable {xs : Nat → Int32} {LL : Nat} {σ μ τ ν : Nat → Nat → Int32} {sr : Nat → Nat} {ln : Nat → Nat → Int32} {Lc : Nat}
theorem sp_X11_isRace (d : Nat) (hsr : ∀ i, i < Lc → sr i < 6) (hwl : ∀ i, i < Lc → am_wl (sr i) (ln i)) (a b : Nat) (ha : a < Lc) (hb : b < Lc) {z : Bool} (eb : pu_rcB sr ln (τ 12) a b = z) : am_X xs LL (d + 2) 138 [.ref (75 + a), .ref (75 + b), .ref 23] (hG τ sr ln Lc μ) (some (.int (am_b2 z))) (hG τ sr ln Lc μ) := by
  refine am_XR (d := d + 1) (C := cd_X11_isRace) (L := [some (.ref (75 + a)), some (.ref (75 + b)), some (.ref 23)]) rfl rfl rfl rfl ?_
  refine am_g 1 1 [some (.ref (75 + a)), some (.ref (75 + b)), some (.ref 23)] [.ref (75 + a)] (hG τ sr ln Lc μ) rfl ?_
  refine am_lnnR rfl _ ?_
  refine am_g 1 5 [some (.ref (75 + a)), some (.ref (75 + b)), some (.ref 23)] [.ref (75 + b)] (hG τ sr ln Lc μ) rfl ?_
  refine am_lnnR rfl _ ?_
  refine am_g 1 9 [some (.ref (75 + a)), some (.ref (75 + b)), some (.ref 23)] [.ref (75 + a)] (hG τ sr ln Lc μ) rfl ?_
  refine am_lgetR (i := a) (k := 6) rfl ha (by decide) (am_lkx (by decide) (hsr _ ha)) ?_
  refine am_g 1 (if (ln a 6) = 0 then 33 else 15) [some (.ref (75 + a)), some (.ref (75 + b)), some (.ref 23)] [] (hG τ sr ln Lc μ) rfl (am_brR (fun c1 => ?_) (fun c1 => ?_))
  · skip
    refine am_g 1 34 [some (.ref (75 + a)), some (.ref (75 + b)), some (.ref 23)] [.int 0] (hG τ sr ln Lc μ) rfl ?_
    exact am_ret2 rfl rfl rfl (am_b2N eb (fun q => q.1 c1)) rfl
  · skip
    refine am_g 1 16 [some (.ref (75 + a)), some (.ref (75 + b)), some (.ref 23)] [.ref (75 + b)] (hG τ sr ln Lc μ) rfl ?_
    refine am_lgetR (i := b) (k := 6) rfl hb (by decide) (am_lkx (by decide) (hsr _ hb)) ?_
    refine am_g 1 (if (ln b 6) = 0 then 33 else 22) [some (.ref (75 + a)), some (.ref (75 + b)), some (.ref 23)] [] (hG τ sr ln Lc μ) rfl (am_brR (fun c2 => ?_) (fun c2 => ?_))
    · skip
      refine am_g 1 34 [some (.ref (75 + a)), some (.ref (75 + b)), some (.ref 23)] [.int 0] (hG τ sr ln Lc μ) rfl ?_
      exact am_ret2 rfl rfl rfl (am_b2N eb (fun q => q.2.1 c2)) rfl
    · skip
      refine am_g 1 23 [some (.ref (75 + a)), some (.ref (75 + b)), some (.ref 23)] [.ref (75 + a)] (hG τ sr ln Lc μ) rfl ?_
      refine am_lgetR (i := a) (k := 3) rfl ha (by decide) (am_lkx (by decide) (hsr _ ha)) ?_
      refine am_g 1 27 [some (.ref (75 + a)), some (.ref (75 + b)), some (.ref 23)] [.ref (75 + b), .int (ln a 3)] (hG τ sr ln Lc μ) rfl ?_
      refine am_lgetR (i := b) (k := 3) rfl hb (by decide) (am_lkx (by decide) (hsr _ hb)) ?_
      refine am_g 1 (if (ln a 3) = (ln b 3) then 33 else 35) [some (.ref (75 + a)), some (.ref (75 + b)), some (.ref 23)] [] (hG τ sr ln Lc μ) rfl (am_brR (fun c3 => ?_) (fun c3 => ?_))
      · skip
        refine am_g 1 34 [some (.ref (75 + a)), some (.ref (75 + b)), some (.ref 23)] [.int 0] (hG τ sr ln Lc μ) rfl ?_
        exact am_ret2 rfl rfl rfl (am_b2N eb (fun q => q.2.2.1 c3)) rfl
      · skip
        refine am_g 1 36 [some (.ref (75 + a)), some (.ref (75 + b)), some (.ref 23)] [.ref (75 + a)] (hG τ sr ln Lc μ) rfl ?_
        refine am_linsR (i := a) (b := [false, false, false, true, false, false].getD (sr a) false) rfl ha (am_lk (f := fun s => bif [false, false, false, true, false, false].getD s false then 1 else 0) (by decide) (hsr _ ha)) ?_
        cases e4 : [false, false, false, true, false, false].getD (sr a) false with
        | false =>
          refine am_g 2 43 [some (.ref (75 + a)), some (.ref (75 + b)), some (.ref 23)] [.ref (75 + b)] (hG τ sr ln Lc μ) rfl ?_
          refine am_linsR (i := b) (b := [false, false, false, true, false, false].getD (sr b) false) rfl hb (am_lk (f := fun s => bif [false, false, false, true, false, false].getD s false then 1 else 0) (by decide) (hsr _ hb)) ?_
          cases e5 : [false, false, false, true, false, false].getD (sr b) false with
          | false =>
            refine am_g 2 50 [some (.ref (75 + a)), some (.ref (75 + b)), some (.ref 23)] [.int 0] (hG τ sr ln Lc μ) rfl ?_
            exact am_ret2 rfl rfl rfl (am_b2N eb (fun q => (q.2.2.2.1).elim (of_decide_eq_false ((pu_ins3 (hsr a ha)).symm.trans e4)) (of_decide_eq_false ((pu_ins3 (hsr b hb)).symm.trans e5)))) rfl
          | true =>
            refine am_g 2 52 [some (.ref (75 + a)), some (.ref (75 + b)), some (.ref 23)] [.ref (75 + a)] (hG τ sr ln Lc μ) rfl ?_
            refine am_call (y := ([17, 17, 48, 84, 4, 17].getD (sr a) 0)) (vs := [.ref (75 + a)]) (rest := []) (v := (some (.int (pu_tch sr ln a)))) (h1 := (hG τ sr ln Lc μ)) rfl rfl (am_tgtL (i := a) rfl rfl ha (am_lk (f := fun s => [17, 17, 48, 84, 4, 17].getD s 0) (by decide) (hsr _ ha)) rfl rfl) (sp_v_touched (σ := τ) (μ := μ) d a ha (hsr _ ha)) ?_
            refine am_g 2 (if (pu_tch sr ln a) = (-1) then 78 else 59) [some (.ref (75 + a)), some (.ref (75 + b)), some (.ref 23)] [] (hG τ sr ln Lc μ) rfl (am_brR (fun c6 => ?_) (fun c6 => ?_))
            · skip
              refine am_g 1 79 [some (.ref (75 + a)), some (.ref (75 + b)), some (.ref 23)] [.int 0] (hG τ sr ln Lc μ) rfl ?_
              exact am_ret2 rfl rfl rfl (am_b2N eb (fun q => q.2.2.2.2.1 c6)) rfl
            · skip
              refine am_g 1 60 [some (.ref (75 + a)), some (.ref (75 + b)), some (.ref 23)] [.ref (75 + b)] (hG τ sr ln Lc μ) rfl ?_
              refine am_call (y := ([17, 17, 48, 84, 4, 17].getD (sr b) 0)) (vs := [.ref (75 + b)]) (rest := []) (v := (some (.int (pu_tch sr ln b)))) (h1 := (hG τ sr ln Lc μ)) rfl rfl (am_tgtL (i := b) rfl rfl hb (am_lk (f := fun s => [17, 17, 48, 84, 4, 17].getD s 0) (by decide) (hsr _ hb)) rfl rfl) (sp_v_touched (σ := τ) (μ := μ) d b hb (hsr _ hb)) ?_
              refine am_g 2 (if (pu_tch sr ln b) = (-1) then 78 else 67) [some (.ref (75 + a)), some (.ref (75 + b)), some (.ref 23)] [] (hG τ sr ln Lc μ) rfl (am_brR (fun c7 => ?_) (fun c7 => ?_))
              · skip
                refine am_g 1 79 [some (.ref (75 + a)), some (.ref (75 + b)), some (.ref 23)] [.int 0] (hG τ sr ln Lc μ) rfl ?_
                exact am_ret2 rfl rfl rfl (am_b2N eb (fun q => q.2.2.2.2.2.1 c7)) rfl
              · skip
                refine am_g 1 68 [some (.ref (75 + a)), some (.ref (75 + b)), some (.ref 23)] [.ref (75 + a)] (hG τ sr ln Lc μ) rfl ?_
                refine am_lgetR (i := a) (k := 2) rfl ha (by decide) (am_lkx (by decide) (hsr _ ha)) ?_
                refine am_g 1 72 [some (.ref (75 + a)), some (.ref (75 + b)), some (.ref 23)] [.ref (75 + b), .int (ln a 2)] (hG τ sr ln Lc μ) rfl ?_
                refine am_lgetR (i := b) (k := 2) rfl hb (by decide) (am_lkx (by decide) (hsr _ hb)) ?_
                refine am_g 1 (if (ln a 2) = (ln b 2) then 80 else 78) [some (.ref (75 + a)), some (.ref (75 + b)), some (.ref 23)] [] (hG τ sr ln Lc μ) rfl (am_brR (fun c8 => ?_) (fun c8 => ?_))
                · skip
                  refine am_g 1 81 [some (.ref (75 + a)), some (.ref (75 + b)), some (.ref 23)] [.ref (75 + a)] (hG τ sr ln Lc μ) rfl ?_
                  refine am_lgetR (i := a) (k := 4) rfl ha (by decide) (am_lkx (by decide) (hsr _ ha)) ?_
                  refine am_g 1 (if (ln a 4) = 0 then 100 else 87) [some (.ref (75 + a)), some (.ref (75 + b)), some (.ref 23)] [] (hG τ sr ln Lc μ) rfl (am_brR (fun c9 => ?_) (fun c9 => ?_))
                  · skip
                    refine am_g 2 102 [some (.ref (75 + a)), some (.ref (75 + b)), some (.ref 23)] [.ref (75 + a), .ref 23] (hG τ sr ln Lc μ) rfl ?_
                    refine am_call (y := ([17, 17, 48, 84, 4, 17].getD (sr a) 0)) (vs := [.ref (75 + a)]) (rest := [.ref 23]) (v := (some (.int (pu_tch sr ln a)))) (h1 := (hG τ sr ln Lc μ)) rfl rfl (am_tgtL (i := a) rfl rfl ha (am_lk (f := fun s => [17, 17, 48, 84, 4, 17].getD s 0) (by decide) (hsr _ ha)) rfl rfl) (sp_v_touched (σ := τ) (μ := μ) d a ha (hsr _ ha)) ?_
                    refine am_call (y := 56) (vs := [.ref 23, .int (pu_tch sr ln a)]) (rest := []) (v := (some (.int (am_hat (τ 12) (pu_tch sr ln a))))) (h1 := (hG τ sr ln Lc μ)) rfl rfl rfl (sp_X7_heldAt_0 (σ := τ) (μ := μ) d _ (pu_tch_pl (hwl _ ha))) ?_
                    refine am_g 2 110 [some (.ref (75 + a)), some (.ref (75 + b)), some (.ref 23)] [.ref (75 + b), .ref 23, .int (am_hat (τ 12) (pu_tch sr ln a))] (hG τ sr ln Lc μ) rfl ?_
                    refine am_call (y := ([17, 17, 48, 84, 4, 17].getD (sr b) 0)) (vs := [.ref (75 + b)]) (rest := [.ref 23, .int (am_hat (τ 12) (pu_tch sr ln a))]) (v := (some (.int (pu_tch sr ln b)))) (h1 := (hG τ sr ln Lc μ)) rfl rfl (am_tgtL (i := b) rfl rfl hb (am_lk (f := fun s => [17, 17, 48, 84, 4, 17].getD s 0) (by decide) (hsr _ hb)) rfl rfl) (sp_v_touched (σ := τ) (μ := μ) d b hb (hsr _ hb)) ?_
                    refine am_call (y := 56) (vs := [.ref 23, .int (pu_tch sr ln b)]) (rest := [.int (am_hat (τ 12) (pu_tch sr ln a))]) (v := (some (.int (am_hat (τ 12) (pu_tch sr ln b))))) (h1 := (hG τ sr ln Lc μ)) rfl rfl rfl (sp_X7_heldAt_0 (σ := τ) (μ := μ) d _ (pu_tch_pl (hwl _ hb))) ?_
                    refine am_g 2 (if ((am_hat (τ 12) (pu_tch sr ln a)) &&& (am_hat (τ 12) (pu_tch sr ln b))) = 0 then 124 else 120) [some (.ref (75 + a)), some (.ref (75 + b)), some (.ref 23)] [] (hG τ sr ln Lc μ) rfl (am_brR (fun c10 => ?_) (fun c10 => ?_))
                    · skip
                      refine am_g 1 125 [some (.ref (75 + a)), some (.ref (75 + b)), some (.ref 23)] [.int 0] (hG τ sr ln Lc μ) rfl ?_
                      exact am_ret2 rfl rfl rfl (am_b2N eb (fun q => q.2.2.2.2.2.2.2.2 c10)) rfl
                    · skip
                      refine am_g 2 125 [some (.ref (75 + a)), some (.ref (75 + b)), some (.ref 23)] [.int 1] (hG τ sr ln Lc μ) rfl ?_
                      exact am_ret2 rfl rfl rfl (am_b2Y eb ⟨c1, c2, c3, (Or.inr (of_decide_eq_true ((pu_ins3 (hsr b hb)).symm.trans e5))), c6, c7, c8, (Or.inl c9), c10⟩) rfl
                  · skip
                    refine am_g 1 88 [some (.ref (75 + a)), some (.ref (75 + b)), some (.ref 23)] [.ref (75 + a)] (hG τ sr ln Lc μ) rfl ?_
                    refine am_lgetR (i := a) (k := 4) rfl ha (by decide) (am_lkx (by decide) (hsr _ ha)) ?_
                    refine am_g 1 92 [some (.ref (75 + a)), some (.ref (75 + b)), some (.ref 23)] [.ref (75 + b), .int (ln a 4)] (hG τ sr ln Lc μ) rfl ?_
                    refine am_lgetR (i := b) (k := 4) rfl hb (by decide) (am_lkx (by decide) (hsr _ hb)) ?_
                    refine am_g 1 (if (ln a 4) = (ln b 4) then 98 else 100) [some (.ref (75 + a)), some (.ref (75 + b)), some (.ref 23)] [] (hG τ sr ln Lc μ) rfl (am_brR (fun c11 => ?_) (fun c11 => ?_))
                    · skip
                      refine am_g 1 99 [some (.ref (75 + a)), some (.ref (75 + b)), some (.ref 23)] [.int 0] (hG τ sr ln Lc μ) rfl ?_
                      exact am_ret2 rfl rfl rfl (am_b2N eb (fun q => (q.2.2.2.2.2.2.2.1).elim c9 (fun z => z c11))) rfl
                    · skip
                      refine am_g 2 102 [some (.ref (75 + a)), some (.ref (75 + b)), some (.ref 23)] [.ref (75 + a), .ref 23] (hG τ sr ln Lc μ) rfl ?_
                      refine am_call (y := ([17, 17, 48, 84, 4, 17].getD (sr a) 0)) (vs := [.ref (75 + a)]) (rest := [.ref 23]) (v := (some (.int (pu_tch sr ln a)))) (h1 := (hG τ sr ln Lc μ)) rfl rfl (am_tgtL (i := a) rfl rfl ha (am_lk (f := fun s => [17, 17, 48, 84, 4, 17].getD s 0) (by decide) (hsr _ ha)) rfl rfl) (sp_v_touched (σ := τ) (μ := μ) d a ha (hsr _ ha)) ?_
                      refine am_call (y := 56) (vs := [.ref 23, .int (pu_tch sr ln a)]) (rest := []) (v := (some (.int (am_hat (τ 12) (pu_tch sr ln a))))) (h1 := (hG τ sr ln Lc μ)) rfl rfl rfl (sp_X7_heldAt_0 (σ := τ) (μ := μ) d _ (pu_tch_pl (hwl _ ha))) ?_
                      refine am_g 2 110 [some (.ref (75 + a)), some (.ref (75 + b)), some (.ref 23)] [.ref (75 + b), .ref 23, .int (am_hat (τ 12) (pu_tch sr ln a))] (hG τ sr ln Lc μ) rfl ?_
                      refine am_call (y := ([17, 17, 48, 84, 4, 17].getD (sr b) 0)) (vs := [.ref (75 + b)]) (rest := [.ref 23, .int (am_hat (τ 12) (pu_tch sr ln a))]) (v := (some (.int (pu_tch sr ln b)))) (h1 := (hG τ sr ln Lc μ)) rfl rfl (am_tgtL (i := b) rfl rfl hb (am_lk (f := fun s => [17, 17, 48, 84, 4, 17].getD s 0) (by decide) (hsr _ hb)) rfl rfl) (sp_v_touched (σ := τ) (μ := μ) d b hb (hsr _ hb)) ?_
                      refine am_call (y := 56) (vs := [.ref 23, .int (pu_tch sr ln b)]) (rest := [.int (am_hat (τ 12) (pu_tch sr ln a))]) (v := (some (.int (am_hat (τ 12) (pu_tch sr ln b))))) (h1 := (hG τ sr ln Lc μ)) rfl rfl rfl (sp_X7_heldAt_0 (σ := τ) (μ := μ) d _ (pu_tch_pl (hwl _ hb))) ?_
                      refine am_g 2 (if ((am_hat (τ 12) (pu_tch sr ln a)) &&& (am_hat (τ 12) (pu_tch sr ln b))) = 0 then 124 else 120) [some (.ref (75 + a)), some (.ref (75 + b)), some (.ref 23)] [] (hG τ sr ln Lc μ) rfl (am_brR (fun c12 => ?_) (fun c12 => ?_))
                      · skip
                        refine am_g 1 125 [some (.ref (75 + a)), some (.ref (75 + b)), some (.ref 23)] [.int 0] (hG τ sr ln Lc μ) rfl ?_
                        exact am_ret2 rfl rfl rfl (am_b2N eb (fun q => q.2.2.2.2.2.2.2.2 c12)) rfl
                      · skip
                        refine am_g 2 125 [some (.ref (75 + a)), some (.ref (75 + b)), some (.ref 23)] [.int 1] (hG τ sr ln Lc μ) rfl ?_
                        exact am_ret2 rfl rfl rfl (am_b2Y eb ⟨c1, c2, c3, (Or.inr (of_decide_eq_true ((pu_ins3 (hsr b hb)).symm.trans e5))), c6, c7, c8, (Or.inr c11), c12⟩) rfl
                · skip
                  refine am_g 1 79 [some (.ref (75 + a)), some (.ref (75 + b)), some (.ref 23)] [.int 0] (hG τ sr ln Lc μ) rfl ?_
                  exact am_ret2 rfl rfl rfl (am_b2N eb (fun q => c8 q.2.2.2.2.2.2.1)) rfl
        | true =>
          refine am_g 2 52 [some (.ref (75 + a)), some (.ref (75 + b)), some (.ref 23)] [.ref (75 + a)] (hG τ sr ln Lc μ) rfl ?_
          refine am_call (y := ([17, 17, 48, 84, 4, 17].getD (sr a) 0)) (vs := [.ref (75 + a)]) (rest := []) (v := (some (.int (pu_tch sr ln a)))) (h1 := (hG τ sr ln Lc μ)) rfl rfl (am_tgtL (i := a) rfl rfl ha (am_lk (f := fun s => [17, 17, 48, 84, 4, 17].getD s 0) (by decide) (hsr _ ha)) rfl rfl) (sp_v_touched (σ := τ) (μ := μ) d a ha (hsr _ ha)) ?_
          refine am_g 2 (if (pu_tch sr ln a) = (-1) then 78 else 59) [some (.ref (75 + a)), some (.ref (75 + b)), some (.ref 23)] [] (hG τ sr ln Lc μ) rfl (am_brR (fun c13 => ?_) (fun c13 => ?_))
          · skip
            refine am_g 1 79 [some (.ref (75 + a)), some (.ref (75 + b)), some (.ref 23)] [.int 0] (hG τ sr ln Lc μ) rfl ?_
            exact am_ret2 rfl rfl rfl (am_b2N eb (fun q => q.2.2.2.2.1 c13)) rfl
          · skip
            refine am_g 1 60 [some (.ref (75 + a)), some (.ref (75 + b)), some (.ref 23)] [.ref (75 + b)] (hG τ sr ln Lc μ) rfl ?_
            refine am_call (y := ([17, 17, 48, 84, 4, 17].getD (sr b) 0)) (vs := [.ref (75 + b)]) (rest := []) (v := (some (.int (pu_tch sr ln b)))) (h1 := (hG τ sr ln Lc μ)) rfl rfl (am_tgtL (i := b) rfl rfl hb (am_lk (f := fun s => [17, 17, 48, 84, 4, 17].getD s 0) (by decide) (hsr _ hb)) rfl rfl) (sp_v_touched (σ := τ) (μ := μ) d b hb (hsr _ hb)) ?_
            refine am_g 2 (if (pu_tch sr ln b) = (-1) then 78 else 67) [some (.ref (75 + a)), some (.ref (75 + b)), some (.ref 23)] [] (hG τ sr ln Lc μ) rfl (am_brR (fun c14 => ?_) (fun c14 => ?_))
            · skip
              refine am_g 1 79 [some (.ref (75 + a)), some (.ref (75 + b)), some (.ref 23)] [.int 0] (hG τ sr ln Lc μ) rfl ?_
              exact am_ret2 rfl rfl rfl (am_b2N eb (fun q => q.2.2.2.2.2.1 c14)) rfl
            · skip
              refine am_g 1 68 [some (.ref (75 + a)), some (.ref (75 + b)), some (.ref 23)] [.ref (75 + a)] (hG τ sr ln Lc μ) rfl ?_
              refine am_lgetR (i := a) (k := 2) rfl ha (by decide) (am_lkx (by decide) (hsr _ ha)) ?_
              refine am_g 1 72 [some (.ref (75 + a)), some (.ref (75 + b)), some (.ref 23)] [.ref (75 + b), .int (ln a 2)] (hG τ sr ln Lc μ) rfl ?_
              refine am_lgetR (i := b) (k := 2) rfl hb (by decide) (am_lkx (by decide) (hsr _ hb)) ?_
              refine am_g 1 (if (ln a 2) = (ln b 2) then 80 else 78) [some (.ref (75 + a)), some (.ref (75 + b)), some (.ref 23)] [] (hG τ sr ln Lc μ) rfl (am_brR (fun c15 => ?_) (fun c15 => ?_))
              · skip
                refine am_g 1 81 [some (.ref (75 + a)), some (.ref (75 + b)), some (.ref 23)] [.ref (75 + a)] (hG τ sr ln Lc μ) rfl ?_
                refine am_lgetR (i := a) (k := 4) rfl ha (by decide) (am_lkx (by decide) (hsr _ ha)) ?_
                refine am_g 1 (if (ln a 4) = 0 then 100 else 87) [some (.ref (75 + a)), some (.ref (75 + b)), some (.ref 23)] [] (hG τ sr ln Lc μ) rfl (am_brR (fun c16 => ?_) (fun c16 => ?_))
                · skip
                  refine am_g 2 102 [some (.ref (75 + a)), some (.ref (75 + b)), some (.ref 23)] [.ref (75 + a), .ref 23] (hG τ sr ln Lc μ) rfl ?_
                  refine am_call (y := ([17, 17, 48, 84, 4, 17].getD (sr a) 0)) (vs := [.ref (75 + a)]) (rest := [.ref 23]) (v := (some (.int (pu_tch sr ln a)))) (h1 := (hG τ sr ln Lc μ)) rfl rfl (am_tgtL (i := a) rfl rfl ha (am_lk (f := fun s => [17, 17, 48, 84, 4, 17].getD s 0) (by decide) (hsr _ ha)) rfl rfl) (sp_v_touched (σ := τ) (μ := μ) d a ha (hsr _ ha)) ?_
                  refine am_call (y := 56) (vs := [.ref 23, .int (pu_tch sr ln a)]) (rest := []) (v := (some (.int (am_hat (τ 12) (pu_tch sr ln a))))) (h1 := (hG τ sr ln Lc μ)) rfl rfl rfl (sp_X7_heldAt_0 (σ := τ) (μ := μ) d _ (pu_tch_pl (hwl _ ha))) ?_
                  refine am_g 2 110 [some (.ref (75 + a)), some (.ref (75 + b)), some (.ref 23)] [.ref (75 + b), .ref 23, .int (am_hat (τ 12) (pu_tch sr ln a))] (hG τ sr ln Lc μ) rfl ?_
                  refine am_call (y := ([17, 17, 48, 84, 4, 17].getD (sr b) 0)) (vs := [.ref (75 + b)]) (rest := [.ref 23, .int (am_hat (τ 12) (pu_tch sr ln a))]) (v := (some (.int (pu_tch sr ln b)))) (h1 := (hG τ sr ln Lc μ)) rfl rfl (am_tgtL (i := b) rfl rfl hb (am_lk (f := fun s => [17, 17, 48, 84, 4, 17].getD s 0) (by decide) (hsr _ hb)) rfl rfl) (sp_v_touched (σ := τ) (μ := μ) d b hb (hsr _ hb)) ?_
                  refine am_call (y := 56) (vs := [.ref 23, .int (pu_tch sr ln b)]) (rest := [.int (am_hat (τ 12) (pu_tch sr ln a))]) (v := (some (.int (am_hat (τ 12) (pu_tch sr ln b))))) (h1 := (hG τ sr ln Lc μ)) rfl rfl rfl (sp_X7_heldAt_0 (σ := τ) (μ := μ) d _ (pu_tch_pl (hwl _ hb))) ?_
                  refine am_g 2 (if ((am_hat (τ 12) (pu_tch sr ln a)) &&& (am_hat (τ 12) (pu_tch sr ln b))) = 0 then 124 else 120) [some (.ref (75 + a)), some (.ref (75 + b)), some (.ref 23)] [] (hG τ sr ln Lc μ) rfl (am_brR (fun c17 => ?_) (fun c17 => ?_))
                  · skip
                    refine am_g 1 125 [some (.ref (75 + a)), some (.ref (75 + b)), some (.ref 23)] [.int 0] (hG τ sr ln Lc μ) rfl ?_
                    exact am_ret2 rfl rfl rfl (am_b2N eb (fun q => q.2.2.2.2.2.2.2.2 c17)) rfl
                  · skip
                    refine am_g 2 125 [some (.ref (75 + a)), some (.ref (75 + b)), some (.ref 23)] [.int 1] (hG τ sr ln Lc μ) rfl ?_
                    exact am_ret2 rfl rfl rfl (am_b2Y eb ⟨c1, c2, c3, (Or.inl (of_decide_eq_true ((pu_ins3 (hsr a ha)).symm.trans e4))), c13, c14, c15, (Or.inl c16), c17⟩) rfl
                · skip
                  refine am_g 1 88 [some (.ref (75 + a)), some (.ref (75 + b)), some (.ref 23)] [.ref (75 + a)] (hG τ sr ln Lc μ) rfl ?_
                  refine am_lgetR (i := a) (k := 4) rfl ha (by decide) (am_lkx (by decide) (hsr _ ha)) ?_
                  refine am_g 1 92 [some (.ref (75 + a)), some (.ref (75 + b)), some (.ref 23)] [.ref (75 + b), .int (ln a 4)] (hG τ sr ln Lc μ) rfl ?_
                  refine am_lgetR (i := b) (k := 4) rfl hb (by decide) (am_lkx (by decide) (hsr _ hb)) ?_
                  refine am_g 1 (if (ln a 4) = (ln b 4) then 98 else 100) [some (.ref (75 + a)), some (.ref (75 + b)), some (.ref 23)] [] (hG τ sr ln Lc μ) rfl (am_brR (fun c18 => ?_) (fun c18 => ?_))
                  · skip
                    refine am_g 1 99 [some (.ref (75 + a)), some (.ref (75 + b)), some (.ref 23)] [.int 0] (hG τ sr ln Lc μ) rfl ?_
                    exact am_ret2 rfl rfl rfl (am_b2N eb (fun q => (q.2.2.2.2.2.2.2.1).elim c16 (fun z => z c18))) rfl
                  · skip
                    refine am_g 2 102 [some (.ref (75 + a)), some (.ref (75 + b)), some (.ref 23)] [.ref (75 + a), .ref 23] (hG τ sr ln Lc μ) rfl ?_
                    refine am_call (y := ([17, 17, 48, 84, 4, 17].getD (sr a) 0)) (vs := [.ref (75 + a)]) (rest := [.ref 23]) (v := (some (.int (pu_tch sr ln a)))) (h1 := (hG τ sr ln Lc μ)) rfl rfl (am_tgtL (i := a) rfl rfl ha (am_lk (f := fun s => [17, 17, 48, 84, 4, 17].getD s 0) (by decide) (hsr _ ha)) rfl rfl) (sp_v_touched (σ := τ) (μ := μ) d a ha (hsr _ ha)) ?_
                    refine am_call (y := 56) (vs := [.ref 23, .int (pu_tch sr ln a)]) (rest := []) (v := (some (.int (am_hat (τ 12) (pu_tch sr ln a))))) (h1 := (hG τ sr ln Lc μ)) rfl rfl rfl (sp_X7_heldAt_0 (σ := τ) (μ := μ) d _ (pu_tch_pl (hwl _ ha))) ?_
                    refine am_g 2 110 [some (.ref (75 + a)), some (.ref (75 + b)), some (.ref 23)] [.ref (75 + b), .ref 23, .int (am_hat (τ 12) (pu_tch sr ln a))] (hG τ sr ln Lc μ) rfl ?_
                    refine am_call (y := ([17, 17, 48, 84, 4, 17].getD (sr b) 0)) (vs := [.ref (75 + b)]) (rest := [.ref 23, .int (am_hat (τ 12) (pu_tch sr ln a))]) (v := (some (.int (pu_tch sr ln b)))) (h1 := (hG τ sr ln Lc μ)) rfl rfl (am_tgtL (i := b) rfl rfl hb (am_lk (f := fun s => [17, 17, 48, 84, 4, 17].getD s 0) (by decide) (hsr _ hb)) rfl rfl) (sp_v_touched (σ := τ) (μ := μ) d b hb (hsr _ hb)) ?_
                    refine am_call (y := 56) (vs := [.ref 23, .int (pu_tch sr ln b)]) (rest := [.int (am_hat (τ 12) (pu_tch sr ln a))]) (v := (some (.int (am_hat (τ 12) (pu_tch sr ln b))))) (h1 := (hG τ sr ln Lc μ)) rfl rfl rfl (sp_X7_heldAt_0 (σ := τ) (μ := μ) d _ (pu_tch_pl (hwl _ hb))) ?_
                    refine am_g 2 (if ((am_hat (τ 12) (pu_tch sr ln a)) &&& (am_hat (τ 12) (pu_tch sr ln b))) = 0 then 124 else 120) [some (.ref (75 + a)), some (.ref (75 + b)), some (.ref 23)] [] (hG τ sr ln Lc μ) rfl (am_brR (fun c19 => ?_) (fun c19 => ?_))
                    · skip
                      refine am_g 1 125 [some (.ref (75 + a)), some (.ref (75 + b)), some (.ref 23)] [.int 0] (hG τ sr ln Lc μ) rfl ?_
                      exact am_ret2 rfl rfl rfl (am_b2N eb (fun q => q.2.2.2.2.2.2.2.2 c19)) rfl
                    · skip
                      refine am_g 2 125 [some (.ref (75 + a)), some (.ref (75 + b)), some (.ref 23)] [.int 1] (hG τ sr ln Lc μ) rfl ?_
                      exact am_ret2 rfl rfl rfl (am_b2Y eb ⟨c1, c2, c3, (Or.inl (of_decide_eq_true ((pu_ins3 (hsr a ha)).symm.trans e4))), c13, c14, c15, (Or.inr c18), c19⟩) rfl
              · skip
                refine am_g 1 79 [some (.ref (75 + a)), some (.ref (75 + b)), some (.ref 23)] [.int 0] (hG τ sr ln Lc μ) rfl ?_
                exact am_ret2 rfl rfl rfl (am_b2N eb (fun q => c15 q.2.2.2.2.2.2.1)) rfl
theorem sp_X11_race (d : Nat) (x : Int32) (hL : Lc ≤ 40) (hsr : ∀ i, i < Lc → sr i < 6) (hwl : ∀ i, i < Lc → am_wl (sr i) (ln i)) (hf : ∀ d, am_X xs LL (d + 6) 52 [.ref 23] (hG σ sr ln Lc μ) (some (.ref 23)) (hG τ sr ln Lc μ)) : am_X xs LL (d + 7) 112 [.ref 14, .int x] (hG σ sr ln Lc μ) (some (.int (pu_ro (pu_rcB sr ln (τ 12)) x Lc Lc 0 0))) (hG τ sr ln Lc μ) := by
  refine am_XR (d := d + 6) (C := cd_X11_race) (L := [some (.ref 14), some (.int x), none, none, none, none]) rfl rfl rfl rfl ?_
  refine am_g 2 4 [some (.ref 14), some (.int x), none, none, none, none] [.ref 23] (hG σ sr ln Lc μ) rfl ?_
  refine am_call (y := 52) (vs := [.ref 23]) (rest := []) (v := (some (.ref 23))) (h1 := (hG τ sr ln Lc μ)) rfl rfl rfl (hf d) ?_
  refine am_g 5 13 [some (.ref 14), some (.int x), some (.ref 23), some (.int 0), some (.int 0), none] [] (hG τ sr ln Lc μ) rfl ?_
  have lpo : ∀ (ra a n : Nat) (w : Option Value), a + ra = Lc → am_R xs LL cd_X11_race (am_X xs LL (d + 6)) 13 [some (.ref 14), some (.int x), some (.ref 23), some (.int (nI n)), some (.int (nI a)), w] [] (hG τ sr ln Lc μ) (some (.int (pu_ro (pu_rcB sr ln (τ 12)) x Lc ra a n))) (hG τ sr ln Lc μ) := by
    intro ra
    induction ra with
    | zero =>
      intro a n w hr
      have hr2 : a = Lc := by omega
      rw [hr2]
      refine am_g 4 (if (nI Lc) ≤ (nI Lc) then 85 else 22) [some (.ref 14), some (.int x), some (.ref 23), some (.int (nI n)), some (.int (nI Lc)), w] [] (hG τ sr ln Lc μ) rfl ?_
      rw [if_pos (show (nI Lc) ≤ (nI Lc) from (am_dle (a := Lc) (b := Lc) (rfl) (rfl) (by omega) (by omega) (by omega)))]
      refine am_g 3 (if x = (-1) then 90 else 94) [some (.ref 14), some (.int x), some (.ref 23), some (.int (nI n)), some (.int (nI Lc)), w] [] (hG τ sr ln Lc μ) rfl (am_brR (fun c1 => ?_) (fun c1 => ?_))
      · skip
        refine am_g 2 95 [some (.ref 14), some (.int x), some (.ref 23), some (.int (nI n)), some (.int (nI Lc)), w] [.int (nI n)] (hG τ sr ln Lc μ) rfl ?_
        exact am_ret2 rfl rfl rfl (by show _ = some (Value.int (if x = -1 then nI n else -1)); rw [if_pos c1]) rfl
      · skip
        refine am_g 1 95 [some (.ref 14), some (.int x), some (.ref 23), some (.int (nI n)), some (.int (nI Lc)), w] [.int (-1)] (hG τ sr ln Lc μ) rfl ?_
        exact am_ret2 rfl rfl rfl (by show _ = some (Value.int (if x = -1 then nI n else -1)); rw [if_neg c1]) rfl
    | succ ra iho =>
      intro a n w hr
      have hr2 : a < Lc := by omega
      refine am_g 4 (if (nI Lc) ≤ (nI a) then 85 else 22) [some (.ref 14), some (.int x), some (.ref 23), some (.int (nI n)), some (.int (nI a)), w] [] (hG τ sr ln Lc μ) rfl ?_
      rw [if_neg (show ¬ (nI Lc) ≤ (nI a) from (am_dnle (a := Lc) (b := a) (rfl) (rfl) (by omega) (by omega) (by omega)))]
      refine am_g 4 28 [some (.ref 14), some (.int x), some (.ref 23), some (.int (nI n)), some (.int (nI a)), some (.int ((nI a) + 1))] [] (hG τ sr ln Lc μ) rfl ?_
      have lpi : ∀ (rb b n : Nat), a < b → b + rb = Lc → am_R xs LL cd_X11_race (am_X xs LL (d + 6)) 28 [some (.ref 14), some (.int x), some (.ref 23), some (.int (nI n)), some (.int (nI a)), some (.int (nI b))] [] (hG τ sr ln Lc μ) (some (.int (pu_rk (pu_rcB sr ln (τ 12)) x Lc ra a (pu_ri (pu_rcB sr ln (τ 12)) x a rb b n)))) (hG τ sr ln Lc μ) := by
        intro rb
        induction rb with
        | zero =>
          intro b n hab hr
          have hr3 : b = Lc := by omega
          rw [hr3]
          refine am_g 4 (if (nI Lc) ≤ (nI Lc) then 79 else 37) [some (.ref 14), some (.int x), some (.ref 23), some (.int (nI n)), some (.int (nI a)), some (.int (nI Lc))] [] (hG τ sr ln Lc μ) rfl ?_
          rw [if_pos (show (nI Lc) ≤ (nI Lc) from (am_dle (a := Lc) (b := Lc) (rfl) (rfl) (by omega) (by omega) (by omega)))]
          refine am_g 2 13 [some (.ref 14), some (.int x), some (.ref 23), some (.int (nI n)), some (.int ((nI a) + 1)), some (.int (nI Lc))] [] (hG τ sr ln Lc μ) rfl ?_
          rw [nI_up]
          exact iho (a + 1) n _ (by omega)
        | succ rb ihi =>
          intro b n hab hr
          have hr3 : b < Lc := by omega
          refine am_g 4 (if (nI Lc) ≤ (nI b) then 79 else 37) [some (.ref 14), some (.int x), some (.ref 23), some (.int (nI n)), some (.int (nI a)), some (.int (nI b))] [] (hG τ sr ln Lc μ) rfl ?_
          rw [if_neg (show ¬ (nI Lc) ≤ (nI b) from (am_dnle (a := Lc) (b := b) (rfl) (rfl) (by omega) (by omega) (by omega)))]
          refine am_g 2 40 [some (.ref 14), some (.int x), some (.ref 23), some (.int (nI n)), some (.int (nI a)), some (.int (nI b))] [.int (nI a), .ref 14] (hG τ sr ln Lc μ) rfl ?_
          refine am_call (y := 128) (vs := [.ref 14, .int (nI a)]) (rest := []) (v := (some (.ref (75 + a)))) (h1 := (hG τ sr ln Lc μ)) rfl rfl rfl (sp_X11_lineAt_ok (σ := τ) (μ := μ) (d + 5) a hr2 hL) ?_
          refine am_g 2 46 [some (.ref 14), some (.int x), some (.ref 23), some (.int (nI n)), some (.int (nI a)), some (.int (nI b))] [.int (nI b), .ref 14, .ref (75 + a)] (hG τ sr ln Lc μ) rfl ?_
          refine am_call (y := 128) (vs := [.ref 14, .int (nI b)]) (rest := [.ref (75 + a)]) (v := (some (.ref (75 + b)))) (h1 := (hG τ sr ln Lc μ)) rfl rfl rfl (sp_X11_lineAt_ok (σ := τ) (μ := μ) (d + 5) b hr3 hL) ?_
          refine am_g 1 50 [some (.ref 14), some (.int x), some (.ref 23), some (.int (nI n)), some (.int (nI a)), some (.int (nI b))] [.ref 23, .ref (75 + b), .ref (75 + a)] (hG τ sr ln Lc μ) rfl ?_
          cases e2 : pu_rcB sr ln (τ 12) a b with
          | false =>
            refine am_call (y := 138) (vs := [.ref (75 + a), .ref (75 + b), .ref 23]) (rest := []) (v := (some (.int 0))) (h1 := (hG τ sr ln Lc μ)) rfl rfl rfl (sp_X11_isRace (d + 4) hsr hwl a b hr2 hr3 e2) ?_
            refine am_g 3 28 [some (.ref 14), some (.int x), some (.ref 23), some (.int (nI n)), some (.int (nI a)), some (.int ((nI b) + 1))] [] (hG τ sr ln Lc μ) rfl ?_
            rw [pu_ri_f e2, nI_up]
            exact ihi (b + 1) n (by omega) (by omega)
          | true =>
            refine am_call (y := 138) (vs := [.ref (75 + a), .ref (75 + b), .ref 23]) (rest := []) (v := (some (.int 1))) (h1 := (hG τ sr ln Lc μ)) rfl rfl rfl (sp_X11_isRace (d + 4) hsr hwl a b hr2 hr3 e2) ?_
            refine am_g 4 (if (nI n) = x then 61 else 70) [some (.ref 14), some (.int x), some (.ref 23), some (.int (nI n)), some (.int (nI a)), some (.int (nI b))] [] (hG τ sr ln Lc μ) rfl (am_brR (fun c3 => ?_) (fun c3 => ?_))
            · skip
              refine am_g 5 69 [some (.ref 14), some (.int x), some (.ref 23), some (.int (nI n)), some (.int (nI a)), some (.int (nI b))] [.int ((100 * (nI a)) + (nI b))] (hG τ sr ln Lc μ) rfl ?_
              rw [pu_ri_t1 e2 c3]; exact am_ret2 rfl rfl rfl (by rw [show ((100 * (nI a)) + (nI b)) = nI (100 * a + b) from by simp only [show (100 : Int32) = nI 100 from rfl, nI_mul2, nI_add]]; rfl) rfl
            · skip
              refine am_g 3 28 [some (.ref 14), some (.int x), some (.ref 23), some (.int ((nI n) + 1)), some (.int (nI a)), some (.int ((nI b) + 1))] [] (hG τ sr ln Lc μ) rfl ?_
              rw [pu_ri_t2 e2 c3, nI_up, nI_up]
              exact ihi (b + 1) (n + 1) (by omega) (by omega)
      have e := lpi (Lc - (a + 1)) (a + 1) n (by omega) (by omega)
      rw [nI_up]
      exact e
  exact lpo Lc 0 0 none (by omega)
theorem sp_X12_isMoving (d : Nat) (hL40 : Lc ≤ 40) (hsr : ∀ i, i < Lc → sr i < 6) (hRL : am_RL sr ln Lc ν) (i : Nat) (hi : i < Lc) {z : Bool} (eb : pu_mvB sr ln i = z) : am_X xs LL (d + 1) 192 [.ref 47, .int (nI i)] (hG σ sr ln Lc ν) (some (.int (am_b2 z))) (hG σ sr ln Lc ν) := by
  refine am_XR (d := d + 0) (C := cd_X12_isMoving) (L := [some (.ref 47), some (.int (nI i))]) rfl rfl rfl rfl ?_
  refine am_g 3 5 [some (.ref 47), some (.int (nI i))] [.int (nI i), .ref 60] (hG σ sr ln Lc ν) rfl ?_
  refine am_baldV (n := 40) (f := (ν 14)) (k := i) (w := (ln i 6)) rfl rfl (rfl) (by omega) (by decide) (hRL.2.2.2.2.2.2.2.2.1 i hi) ?_
  refine am_g 1 (if (ln i 6) = 0 then 33 else 9) [some (.ref 47), some (.int (nI i))] [] (hG σ sr ln Lc ν) rfl (am_brR (fun c1 => ?_) (fun c1 => ?_))
  · skip
    refine am_g 1 34 [some (.ref 47), some (.int (nI i))] [.int 0] (hG σ sr ln Lc ν) rfl ?_
    exact am_ret2 rfl rfl rfl (am_b2N eb (fun q => q.1 c1)) rfl
  · skip
    refine am_g 3 14 [some (.ref 47), some (.int (nI i))] [.int (nI i), .ref 53] (hG σ sr ln Lc ν) rfl ?_
    refine am_ialdV (n := 40) (f := (ν 7)) (k := i) (w := (nI (sr i))) rfl rfl (rfl) (by omega) (by decide) (hRL.2.1 i hi) ?_
    refine am_g 2 (if (nI (sr i)) = 2 then 29 else 19) [some (.ref 47), some (.int (nI i))] [] (hG σ sr ln Lc ν) rfl (am_brR (fun c2 => ?_) (fun c2 => ?_))
    · skip
      refine am_g 2 34 [some (.ref 47), some (.int (nI i))] [.int 1] (hG σ sr ln Lc ν) rfl ?_
      exact am_ret2 rfl rfl rfl (am_b2Y eb ⟨c1, Or.inl (nI_s4 (hsr i hi) c2)⟩) rfl
    · skip
      refine am_g 3 24 [some (.ref 47), some (.int (nI i))] [.int (nI i), .ref 53] (hG σ sr ln Lc ν) rfl ?_
      refine am_ialdV (n := 40) (f := (ν 7)) (k := i) (w := (nI (sr i))) rfl rfl (rfl) (by omega) (by decide) (hRL.2.1 i hi) ?_
      refine am_g 2 (if (nI (sr i)) = 3 then 29 else 33) [some (.ref 47), some (.int (nI i))] [] (hG σ sr ln Lc ν) rfl (am_brR (fun c3 => ?_) (fun c3 => ?_))
      · skip
        refine am_g 2 34 [some (.ref 47), some (.int (nI i))] [.int 1] (hG σ sr ln Lc ν) rfl ?_
        exact am_ret2 rfl rfl rfl (am_b2Y eb ⟨c1, Or.inr (nI_s4 (hsr i hi) c3)⟩) rfl
      · skip
        refine am_g 1 34 [some (.ref 47), some (.int (nI i))] [.int 0] (hG σ sr ln Lc ν) rfl ?_
        exact am_ret2 rfl rfl rfl (am_b2N eb (fun q => q.2.elim (fun z => c2 (by rw [z]; rfl)) (fun z => c3 (by rw [z]; rfl)))) rfl
theorem sp_X12_base_y (d : Nat) (hL40 : Lc ≤ 40) (hsr : ∀ i, i < Lc → sr i < 6) (hRL : am_RL sr ln Lc ν) (i : Nat) (hi : i < Lc) (hs : sr i = 2) {b : Nat} (hb : b < 20) (h1 : ln i 1 = nI b) : am_X xs LL (d + 1) 193 [.ref 47, .int (nI i)] (hG σ sr ln Lc ν) (some (.int (ν 24 b))) (hG σ sr ln Lc ν) := by
  refine am_XR (d := d + 0) (C := cd_X12_base) (L := [some (.ref 47), some (.int (nI i))]) rfl rfl rfl rfl ?_
  refine am_g 3 5 [some (.ref 47), some (.int (nI i))] [.int (nI i), .ref 53] (hG σ sr ln Lc ν) rfl ?_
  refine am_ialdV (n := 40) (f := (ν 7)) (k := i) (w := (nI (sr i))) rfl rfl (rfl) (by omega) (by decide) (hRL.2.1 i hi) ?_
  refine am_g 2 (if (nI (sr i)) = 2 then 10 else 24) [some (.ref 47), some (.int (nI i))] [] (hG σ sr ln Lc ν) rfl ?_
  rw [if_pos (show (nI (sr i)) = 2 from (by rw [hs]; rfl))]
  refine am_g 5 19 [some (.ref 47), some (.int (nI i))] [.int (nI i), .ref 55, .ref 65] (hG σ sr ln Lc ν) rfl ?_
  refine am_ialdV (n := 40) (f := (ν 9)) (k := i) (w := (nI b)) rfl rfl (rfl) (by omega) (by decide) ((hRL.2.2.2.1 i hi).trans h1) ?_
  refine am_ialdR (n := 68) (f := (ν 24)) (k := b) rfl rfl (rfl) (by omega) (by decide) ?_
  refine am_g 1 35 [some (.ref 47), some (.int (nI i))] [.int (ν 24 b)] (hG σ sr ln Lc ν) rfl ?_
  exact am_ret2 rfl rfl rfl rfl rfl
theorem sp_X12_base_n (d : Nat) (hL40 : Lc ≤ 40) (hsr : ∀ i, i < Lc → sr i < 6) (hRL : am_RL sr ln Lc ν) (i : Nat) (hi : i < Lc) (hs : ¬ sr i = 2) {a : Nat} (ha : a < 20) (h0 : ln i 0 = nI a) : am_X xs LL (d + 1) 193 [.ref 47, .int (nI i)] (hG σ sr ln Lc ν) (some (.int (ν 24 a))) (hG σ sr ln Lc ν) := by
  refine am_XR (d := d + 0) (C := cd_X12_base) (L := [some (.ref 47), some (.int (nI i))]) rfl rfl rfl rfl ?_
  refine am_g 3 5 [some (.ref 47), some (.int (nI i))] [.int (nI i), .ref 53] (hG σ sr ln Lc ν) rfl ?_
  refine am_ialdV (n := 40) (f := (ν 7)) (k := i) (w := (nI (sr i))) rfl rfl (rfl) (by omega) (by decide) (hRL.2.1 i hi) ?_
  refine am_g 2 (if (nI (sr i)) = 2 then 10 else 24) [some (.ref 47), some (.int (nI i))] [] (hG σ sr ln Lc ν) rfl ?_
  rw [if_neg (show ¬ (nI (sr i)) = 2 from (fun q => hs (nI_s4 (hsr i hi) q)))]
  refine am_g 5 33 [some (.ref 47), some (.int (nI i))] [.int (nI i), .ref 54, .ref 65] (hG σ sr ln Lc ν) rfl ?_
  refine am_ialdV (n := 40) (f := (ν 8)) (k := i) (w := (nI a)) rfl rfl (rfl) (by omega) (by decide) ((hRL.2.2.1 i hi).trans h0) ?_
  refine am_ialdR (n := 68) (f := (ν 24)) (k := a) rfl rfl (rfl) (by omega) (by decide) ?_
  exact am_ret2 rfl rfl rfl rfl rfl
theorem sp_X12_base (d : Nat) (hL40 : Lc ≤ 40) (hsr : ∀ i, i < Lc → sr i < 6) (hRL : am_RL sr ln Lc ν) (i : Nat) (hi : i < Lc) (hw : am_wl (sr i) (ln i)) : am_X xs LL (d + 1) 193 [.ref 47, .int (nI i)] (hG σ sr ln Lc ν) (some (.int (pu_bsF sr ln (ν 24) i))) (hG σ sr ln Lc ν) := by
  obtain ⟨⟨a, ha, h0⟩, -, h1, -⟩ := hw
  unfold pu_bsF
  by_cases hs : sr i = 2
  · obtain ⟨b, hb, h1⟩ := h1 (by rw [hs]; decide)
    rw [if_pos hs, h1, am_hat_nI (by omega)]
    exact sp_X12_base_y d hL40 hsr hRL i hi hs hb h1
  · rw [if_neg hs, h0, am_hat_nI (by omega)]
    exact sp_X12_base_n d hL40 hsr hRL i hi hs ha h0
theorem sp_X12_isRace (d : Nat) (hL40 : Lc ≤ 40) (hsr : ∀ i, i < Lc → sr i < 6) (hRL : am_RL sr ln Lc ν) (hwl : ∀ i, i < Lc → am_wl (sr i) (ln i)) (a b : Nat) (ha : a < Lc) (hb : b < Lc) {z : Bool} (eb : pu_rmB sr ln (ν 24) a b = z) : am_X xs LL (d + 2) 194 [.ref 47, .int (nI a), .int (nI b)] (hG σ sr ln Lc ν) (some (.int (am_b2 z))) (hG σ sr ln Lc ν) := by
  refine am_XR (d := d + 1) (C := cd_X12_isRace) (L := [some (.ref 47), some (.int (nI a)), some (.int (nI b))]) rfl rfl rfl rfl ?_
  refine am_g 2 2 [some (.ref 47), some (.int (nI a)), some (.int (nI b))] [.int (nI a), .ref 47] (hG σ sr ln Lc ν) rfl ?_
  cases e1 : pu_mvB sr ln a with
  | false =>
    refine am_call (y := 192) (vs := [.ref 47, .int (nI a)]) (rest := []) (v := (some (.int 0))) (h1 := (hG σ sr ln Lc ν)) rfl rfl rfl (sp_X12_isMoving d hL40 hsr hRL a ha e1) ?_
    refine am_g 2 52 [some (.ref 47), some (.int (nI a)), some (.int (nI b))] [.int 0] (hG σ sr ln Lc ν) rfl ?_
    exact am_ret2 rfl rfl rfl (am_b2N eb (fun q => absurd (e1.symm.trans q.1) (by decide))) rfl
  | true =>
    refine am_call (y := 192) (vs := [.ref 47, .int (nI a)]) (rest := []) (v := (some (.int 1))) (h1 := (hG σ sr ln Lc ν)) rfl rfl rfl (sp_X12_isMoving d hL40 hsr hRL a ha e1) ?_
    refine am_g 3 10 [some (.ref 47), some (.int (nI a)), some (.int (nI b))] [.int (nI b), .ref 47] (hG σ sr ln Lc ν) rfl ?_
    cases e2 : pu_mvB sr ln b with
    | false =>
      refine am_call (y := 192) (vs := [.ref 47, .int (nI b)]) (rest := []) (v := (some (.int 0))) (h1 := (hG σ sr ln Lc ν)) rfl rfl rfl (sp_X12_isMoving d hL40 hsr hRL b hb e2) ?_
      refine am_g 2 52 [some (.ref 47), some (.int (nI a)), some (.int (nI b))] [.int 0] (hG σ sr ln Lc ν) rfl ?_
      exact am_ret2 rfl rfl rfl (am_b2N eb (fun q => absurd (e2.symm.trans q.2.1) (by decide))) rfl
    | true =>
      refine am_call (y := 192) (vs := [.ref 47, .int (nI b)]) (rest := []) (v := (some (.int 1))) (h1 := (hG σ sr ln Lc ν)) rfl rfl rfl (sp_X12_isMoving d hL40 hsr hRL b hb e2) ?_
      refine am_g 4 21 [some (.ref 47), some (.int (nI a)), some (.int (nI b))] [.int (nI a), .ref 53] (hG σ sr ln Lc ν) rfl ?_
      refine am_ialdV (n := 40) (f := (ν 7)) (k := a) (w := (nI (sr a))) rfl rfl (rfl) (by omega) (by decide) (hRL.2.1 a ha) ?_
      refine am_g 2 (if (nI (sr a)) = 2 then 26 else 36) [some (.ref 47), some (.int (nI a)), some (.int (nI b))] [] (hG σ sr ln Lc ν) rfl (am_brR (fun c3 => ?_) (fun c3 => ?_))
      · skip
        refine am_g 3 31 [some (.ref 47), some (.int (nI a)), some (.int (nI b))] [.int (nI b), .ref 53] (hG σ sr ln Lc ν) rfl ?_
        refine am_ialdV (n := 40) (f := (ν 7)) (k := b) (w := (nI (sr b))) rfl rfl (rfl) (by omega) (by decide) (hRL.2.1 b hb) ?_
        refine am_g 2 (if (nI (sr b)) = 2 then 51 else 36) [some (.ref 47), some (.int (nI a)), some (.int (nI b))] [] (hG σ sr ln Lc ν) rfl (am_brR (fun c4 => ?_) (fun c4 => ?_))
        · skip
          refine am_g 1 52 [some (.ref 47), some (.int (nI a)), some (.int (nI b))] [.int 0] (hG σ sr ln Lc ν) rfl ?_
          exact am_ret2 rfl rfl rfl (am_b2N eb (fun q => q.2.2.1 ⟨nI_s4 (hsr a ha) c3, nI_s4 (hsr b hb) c4⟩)) rfl
        · skip
          refine am_g 3 41 [some (.ref 47), some (.int (nI a)), some (.int (nI b))] [.int (nI a), .ref 58] (hG σ sr ln Lc ν) rfl ?_
          refine am_ialdV (n := 40) (f := (ν 12)) (k := a) (w := (ln a 3)) rfl rfl (rfl) (by omega) (by decide) (hRL.2.2.2.2.2.2.1 a ha) ?_
          refine am_g 3 47 [some (.ref 47), some (.int (nI a)), some (.int (nI b))] [.int (nI b), .ref 58, .int (ln a 3)] (hG σ sr ln Lc ν) rfl ?_
          refine am_ialdV (n := 40) (f := (ν 12)) (k := b) (w := (ln b 3)) rfl rfl (rfl) (by omega) (by decide) (hRL.2.2.2.2.2.2.1 b hb) ?_
          refine am_g 1 (if (ln a 3) = (ln b 3) then 51 else 53) [some (.ref 47), some (.int (nI a)), some (.int (nI b))] [] (hG σ sr ln Lc ν) rfl (am_brR (fun c5 => ?_) (fun c5 => ?_))
          · skip
            refine am_g 1 52 [some (.ref 47), some (.int (nI a)), some (.int (nI b))] [.int 0] (hG σ sr ln Lc ν) rfl ?_
            exact am_ret2 rfl rfl rfl (am_b2N eb (fun q => q.2.2.2.1 c5)) rfl
          · skip
            refine am_g 3 58 [some (.ref 47), some (.int (nI a)), some (.int (nI b))] [.int (nI a), .ref 56] (hG σ sr ln Lc ν) rfl ?_
            refine am_ialdV (n := 40) (f := (ν 10)) (k := a) (w := (ln a 2)) rfl rfl (rfl) (by omega) (by decide) (hRL.2.2.2.2.1 a ha) ?_
            refine am_g 3 64 [some (.ref 47), some (.int (nI a)), some (.int (nI b))] [.int (nI b), .ref 56, .int (ln a 2)] (hG σ sr ln Lc ν) rfl ?_
            refine am_ialdV (n := 40) (f := (ν 10)) (k := b) (w := (ln b 2)) rfl rfl (rfl) (by omega) (by decide) (hRL.2.2.2.2.1 b hb) ?_
            refine am_g 1 (if (ln a 2) = (ln b 2) then 68 else 110) [some (.ref 47), some (.int (nI a)), some (.int (nI b))] [] (hG σ sr ln Lc ν) rfl (am_brR (fun c6 => ?_) (fun c6 => ?_))
            · skip
              refine am_g 2 70 [some (.ref 47), some (.int (nI a)), some (.int (nI b))] [.int (nI a), .ref 47] (hG σ sr ln Lc ν) rfl ?_
              refine am_call (y := 193) (vs := [.ref 47, .int (nI a)]) (rest := []) (v := (some (.int (pu_bsF sr ln (ν 24) a)))) (h1 := (hG σ sr ln Lc ν)) rfl rfl rfl (sp_X12_base d hL40 hsr hRL a ha (hwl a ha)) ?_
              refine am_g 2 75 [some (.ref 47), some (.int (nI a)), some (.int (nI b))] [.int (nI b), .ref 47, .int (pu_bsF sr ln (ν 24) a)] (hG σ sr ln Lc ν) rfl ?_
              refine am_call (y := 193) (vs := [.ref 47, .int (nI b)]) (rest := [.int (pu_bsF sr ln (ν 24) a)]) (v := (some (.int (pu_bsF sr ln (ν 24) b)))) (h1 := (hG σ sr ln Lc ν)) rfl rfl rfl (sp_X12_base d hL40 hsr hRL b hb (hwl b hb)) ?_
              refine am_g 2 (if ((pu_bsF sr ln (ν 24) a) &&& (pu_bsF sr ln (ν 24) b)) = 0 then 110 else 82) [some (.ref 47), some (.int (nI a)), some (.int (nI b))] [] (hG σ sr ln Lc ν) rfl (am_brR (fun c7 => ?_) (fun c7 => ?_))
              · skip
                refine am_g 1 111 [some (.ref 47), some (.int (nI a)), some (.int (nI b))] [.int 0] (hG σ sr ln Lc ν) rfl ?_
                exact am_ret2 rfl rfl rfl (am_b2N eb (fun q => q.2.2.2.2.2.1 c7)) rfl
              · skip
                refine am_g 3 87 [some (.ref 47), some (.int (nI a)), some (.int (nI b))] [.int (nI a), .ref 59] (hG σ sr ln Lc ν) rfl ?_
                refine am_ialdV (n := 40) (f := (ν 13)) (k := a) (w := (ln a 4)) rfl rfl (rfl) (by omega) (by decide) (hRL.2.2.2.2.2.2.2.1 a ha) ?_
                refine am_g 1 (if (ln a 4) = 0 then 106 else 91) [some (.ref 47), some (.int (nI a)), some (.int (nI b))] [] (hG σ sr ln Lc ν) rfl (am_brR (fun c8 => ?_) (fun c8 => ?_))
                · skip
                  refine am_g 2 111 [some (.ref 47), some (.int (nI a)), some (.int (nI b))] [.int 1] (hG σ sr ln Lc ν) rfl ?_
                  exact am_ret2 rfl rfl rfl (am_b2Y eb ⟨e1, e2, (fun z => c4 (by rw [z.2]; rfl)), c5, c6, c7, (Or.inl c8)⟩) rfl
                · skip
                  refine am_g 3 96 [some (.ref 47), some (.int (nI a)), some (.int (nI b))] [.int (nI a), .ref 59] (hG σ sr ln Lc ν) rfl ?_
                  refine am_ialdV (n := 40) (f := (ν 13)) (k := a) (w := (ln a 4)) rfl rfl (rfl) (by omega) (by decide) (hRL.2.2.2.2.2.2.2.1 a ha) ?_
                  refine am_g 3 102 [some (.ref 47), some (.int (nI a)), some (.int (nI b))] [.int (nI b), .ref 59, .int (ln a 4)] (hG σ sr ln Lc ν) rfl ?_
                  refine am_ialdV (n := 40) (f := (ν 13)) (k := b) (w := (ln b 4)) rfl rfl (rfl) (by omega) (by decide) (hRL.2.2.2.2.2.2.2.1 b hb) ?_
                  refine am_g 1 (if (ln a 4) = (ln b 4) then 110 else 106) [some (.ref 47), some (.int (nI a)), some (.int (nI b))] [] (hG σ sr ln Lc ν) rfl (am_brR (fun c9 => ?_) (fun c9 => ?_))
                  · skip
                    refine am_g 1 111 [some (.ref 47), some (.int (nI a)), some (.int (nI b))] [.int 0] (hG σ sr ln Lc ν) rfl ?_
                    exact am_ret2 rfl rfl rfl (am_b2N eb (fun q => q.2.2.2.2.2.2.elim c8 (fun z => z c9))) rfl
                  · skip
                    refine am_g 2 111 [some (.ref 47), some (.int (nI a)), some (.int (nI b))] [.int 1] (hG σ sr ln Lc ν) rfl ?_
                    exact am_ret2 rfl rfl rfl (am_b2Y eb ⟨e1, e2, (fun z => c4 (by rw [z.2]; rfl)), c5, c6, c7, (Or.inr c9)⟩) rfl
            · skip
              refine am_g 1 111 [some (.ref 47), some (.int (nI a)), some (.int (nI b))] [.int 0] (hG σ sr ln Lc ν) rfl ?_
              exact am_ret2 rfl rfl rfl (am_b2N eb (fun q => c6 q.2.2.2.2.1)) rfl
      · skip
        refine am_g 3 41 [some (.ref 47), some (.int (nI a)), some (.int (nI b))] [.int (nI a), .ref 58] (hG σ sr ln Lc ν) rfl ?_
        refine am_ialdV (n := 40) (f := (ν 12)) (k := a) (w := (ln a 3)) rfl rfl (rfl) (by omega) (by decide) (hRL.2.2.2.2.2.2.1 a ha) ?_
        refine am_g 3 47 [some (.ref 47), some (.int (nI a)), some (.int (nI b))] [.int (nI b), .ref 58, .int (ln a 3)] (hG σ sr ln Lc ν) rfl ?_
        refine am_ialdV (n := 40) (f := (ν 12)) (k := b) (w := (ln b 3)) rfl rfl (rfl) (by omega) (by decide) (hRL.2.2.2.2.2.2.1 b hb) ?_
        refine am_g 1 (if (ln a 3) = (ln b 3) then 51 else 53) [some (.ref 47), some (.int (nI a)), some (.int (nI b))] [] (hG σ sr ln Lc ν) rfl (am_brR (fun c10 => ?_) (fun c10 => ?_))
        · skip
          refine am_g 1 52 [some (.ref 47), some (.int (nI a)), some (.int (nI b))] [.int 0] (hG σ sr ln Lc ν) rfl ?_
          exact am_ret2 rfl rfl rfl (am_b2N eb (fun q => q.2.2.2.1 c10)) rfl
        · skip
          refine am_g 3 58 [some (.ref 47), some (.int (nI a)), some (.int (nI b))] [.int (nI a), .ref 56] (hG σ sr ln Lc ν) rfl ?_
          refine am_ialdV (n := 40) (f := (ν 10)) (k := a) (w := (ln a 2)) rfl rfl (rfl) (by omega) (by decide) (hRL.2.2.2.2.1 a ha) ?_
          refine am_g 3 64 [some (.ref 47), some (.int (nI a)), some (.int (nI b))] [.int (nI b), .ref 56, .int (ln a 2)] (hG σ sr ln Lc ν) rfl ?_
          refine am_ialdV (n := 40) (f := (ν 10)) (k := b) (w := (ln b 2)) rfl rfl (rfl) (by omega) (by decide) (hRL.2.2.2.2.1 b hb) ?_
          refine am_g 1 (if (ln a 2) = (ln b 2) then 68 else 110) [some (.ref 47), some (.int (nI a)), some (.int (nI b))] [] (hG σ sr ln Lc ν) rfl (am_brR (fun c11 => ?_) (fun c11 => ?_))
          · skip
            refine am_g 2 70 [some (.ref 47), some (.int (nI a)), some (.int (nI b))] [.int (nI a), .ref 47] (hG σ sr ln Lc ν) rfl ?_
            refine am_call (y := 193) (vs := [.ref 47, .int (nI a)]) (rest := []) (v := (some (.int (pu_bsF sr ln (ν 24) a)))) (h1 := (hG σ sr ln Lc ν)) rfl rfl rfl (sp_X12_base d hL40 hsr hRL a ha (hwl a ha)) ?_
            refine am_g 2 75 [some (.ref 47), some (.int (nI a)), some (.int (nI b))] [.int (nI b), .ref 47, .int (pu_bsF sr ln (ν 24) a)] (hG σ sr ln Lc ν) rfl ?_
            refine am_call (y := 193) (vs := [.ref 47, .int (nI b)]) (rest := [.int (pu_bsF sr ln (ν 24) a)]) (v := (some (.int (pu_bsF sr ln (ν 24) b)))) (h1 := (hG σ sr ln Lc ν)) rfl rfl rfl (sp_X12_base d hL40 hsr hRL b hb (hwl b hb)) ?_
            refine am_g 2 (if ((pu_bsF sr ln (ν 24) a) &&& (pu_bsF sr ln (ν 24) b)) = 0 then 110 else 82) [some (.ref 47), some (.int (nI a)), some (.int (nI b))] [] (hG σ sr ln Lc ν) rfl (am_brR (fun c12 => ?_) (fun c12 => ?_))
            · skip
              refine am_g 1 111 [some (.ref 47), some (.int (nI a)), some (.int (nI b))] [.int 0] (hG σ sr ln Lc ν) rfl ?_
              exact am_ret2 rfl rfl rfl (am_b2N eb (fun q => q.2.2.2.2.2.1 c12)) rfl
            · skip
              refine am_g 3 87 [some (.ref 47), some (.int (nI a)), some (.int (nI b))] [.int (nI a), .ref 59] (hG σ sr ln Lc ν) rfl ?_
              refine am_ialdV (n := 40) (f := (ν 13)) (k := a) (w := (ln a 4)) rfl rfl (rfl) (by omega) (by decide) (hRL.2.2.2.2.2.2.2.1 a ha) ?_
              refine am_g 1 (if (ln a 4) = 0 then 106 else 91) [some (.ref 47), some (.int (nI a)), some (.int (nI b))] [] (hG σ sr ln Lc ν) rfl (am_brR (fun c13 => ?_) (fun c13 => ?_))
              · skip
                refine am_g 2 111 [some (.ref 47), some (.int (nI a)), some (.int (nI b))] [.int 1] (hG σ sr ln Lc ν) rfl ?_
                exact am_ret2 rfl rfl rfl (am_b2Y eb ⟨e1, e2, (fun z => c3 (by rw [z.1]; rfl)), c10, c11, c12, (Or.inl c13)⟩) rfl
              · skip
                refine am_g 3 96 [some (.ref 47), some (.int (nI a)), some (.int (nI b))] [.int (nI a), .ref 59] (hG σ sr ln Lc ν) rfl ?_
                refine am_ialdV (n := 40) (f := (ν 13)) (k := a) (w := (ln a 4)) rfl rfl (rfl) (by omega) (by decide) (hRL.2.2.2.2.2.2.2.1 a ha) ?_
                refine am_g 3 102 [some (.ref 47), some (.int (nI a)), some (.int (nI b))] [.int (nI b), .ref 59, .int (ln a 4)] (hG σ sr ln Lc ν) rfl ?_
                refine am_ialdV (n := 40) (f := (ν 13)) (k := b) (w := (ln b 4)) rfl rfl (rfl) (by omega) (by decide) (hRL.2.2.2.2.2.2.2.1 b hb) ?_
                refine am_g 1 (if (ln a 4) = (ln b 4) then 110 else 106) [some (.ref 47), some (.int (nI a)), some (.int (nI b))] [] (hG σ sr ln Lc ν) rfl (am_brR (fun c14 => ?_) (fun c14 => ?_))
                · skip
                  refine am_g 1 111 [some (.ref 47), some (.int (nI a)), some (.int (nI b))] [.int 0] (hG σ sr ln Lc ν) rfl ?_
                  exact am_ret2 rfl rfl rfl (am_b2N eb (fun q => q.2.2.2.2.2.2.elim c13 (fun z => z c14))) rfl
                · skip
                  refine am_g 2 111 [some (.ref 47), some (.int (nI a)), some (.int (nI b))] [.int 1] (hG σ sr ln Lc ν) rfl ?_
                  exact am_ret2 rfl rfl rfl (am_b2Y eb ⟨e1, e2, (fun z => c3 (by rw [z.1]; rfl)), c10, c11, c12, (Or.inr c14)⟩) rfl
          · skip
            refine am_g 1 111 [some (.ref 47), some (.int (nI a)), some (.int (nI b))] [.int 0] (hG σ sr ln Lc ν) rfl ?_
            exact am_ret2 rfl rfl rfl (am_b2N eb (fun q => c11 q.2.2.2.2.1)) rfl
theorem sp_X12_race_ok (d : Nat) (x : Int32) (hx : -1 ≤ x) (hL : Lc ≤ 40) (hsr : ∀ i, i < Lc → sr i < 6) (hwl : ∀ i, i < Lc → am_wl (sr i) (ln i)) (hRL : am_RL sr ln Lc ν) (hw : ∀ d, am_X xs LL (d + 6) 173 [.ref 47, .int 0, .int (-1)] (hG σ sr ln Lc μ) none (hG σ sr ln Lc ν)) : am_X xs LL (d + 7) 195 [.ref 47, .int x] (hG σ sr ln Lc μ) (some (.int (pu_ro (pu_rmB sr ln (ν 24)) x Lc Lc 0 0))) (hG σ sr ln Lc ν) := by
  refine am_XR (d := d + 6) (C := cd_X12_race) (L := [some (.ref 47), some (.int x), none, none, none]) rfl rfl rfl rfl ?_
  refine am_g 3 (if (-1) ≤ x then 7 else 5) [some (.ref 47), some (.int x), none, none, none] [] (hG σ sr ln Lc μ) rfl ?_
  rw [if_pos (show (-1) ≤ x from hx)]
  refine am_g 3 10 [some (.ref 47), some (.int x), none, none, none] [.int (-1), .int 0, .ref 47] (hG σ sr ln Lc μ) rfl ?_
  refine am_call (y := 173) (vs := [.ref 47, .int 0, .int (-1)]) (rest := []) (v := none) (h1 := (hG σ sr ln Lc ν)) rfl rfl rfl (hw d) ?_
  refine am_g 4 17 [some (.ref 47), some (.int x), some (.int 0), some (.int 0), none] [] (hG σ sr ln Lc ν) rfl ?_
  have lpo : ∀ (ra a n : Nat) (w : Option Value), a + ra = Lc → am_R xs LL cd_X12_race (am_X xs LL (d + 6)) 17 [some (.ref 47), some (.int x), some (.int (nI n)), some (.int (nI a)), w] [] (hG σ sr ln Lc ν) (some (.int (pu_ro (pu_rmB sr ln (ν 24)) x Lc ra a n))) (hG σ sr ln Lc ν) := by
    intro ra
    induction ra with
    | zero =>
      intro a n w hr
      have hr2 : a = Lc := by omega
      rw [hr2]
      refine am_g 3 22 [some (.ref 47), some (.int x), some (.int (nI n)), some (.int (nI Lc)), w] [.int (ν 17 0), .int (nI Lc)] (hG σ sr ln Lc ν) rfl ?_
      rw [show (ν 17 0) = (nI Lc) from hRL.1]
      refine am_g 1 (if (nI Lc) ≤ (nI Lc) then 80 else 25) [some (.ref 47), some (.int x), some (.int (nI n)), some (.int (nI Lc)), w] [] (hG σ sr ln Lc ν) rfl ?_
      rw [if_pos (show (nI Lc) ≤ (nI Lc) from (am_dle (a := Lc) (b := Lc) (rfl) (rfl) (by omega) (by omega) (by omega)))]
      refine am_g 3 (if x = (-1) then 85 else 89) [some (.ref 47), some (.int x), some (.int (nI n)), some (.int (nI Lc)), w] [] (hG σ sr ln Lc ν) rfl (am_brR (fun c1 => ?_) (fun c1 => ?_))
      · skip
        refine am_g 2 90 [some (.ref 47), some (.int x), some (.int (nI n)), some (.int (nI Lc)), w] [.int (nI n)] (hG σ sr ln Lc ν) rfl ?_
        exact am_ret2 rfl rfl rfl (by show _ = some (Value.int (if x = -1 then nI n else -1)); rw [if_pos c1]) rfl
      · skip
        refine am_g 1 90 [some (.ref 47), some (.int x), some (.int (nI n)), some (.int (nI Lc)), w] [.int (-1)] (hG σ sr ln Lc ν) rfl ?_
        exact am_ret2 rfl rfl rfl (by show _ = some (Value.int (if x = -1 then nI n else -1)); rw [if_neg c1]) rfl
    | succ ra iho =>
      intro a n w hr
      have hr2 : a < Lc := by omega
      refine am_g 3 22 [some (.ref 47), some (.int x), some (.int (nI n)), some (.int (nI a)), w] [.int (ν 17 0), .int (nI a)] (hG σ sr ln Lc ν) rfl ?_
      rw [show (ν 17 0) = (nI Lc) from hRL.1]
      refine am_g 1 (if (nI Lc) ≤ (nI a) then 80 else 25) [some (.ref 47), some (.int x), some (.int (nI n)), some (.int (nI a)), w] [] (hG σ sr ln Lc ν) rfl ?_
      rw [if_neg (show ¬ (nI Lc) ≤ (nI a) from (am_dnle (a := Lc) (b := a) (rfl) (rfl) (by omega) (by omega) (by omega)))]
      refine am_g 4 30 [some (.ref 47), some (.int x), some (.int (nI n)), some (.int (nI a)), some (.int ((nI a) + 1))] [] (hG σ sr ln Lc ν) rfl ?_
      have lpi : ∀ (rb b n : Nat), a < b → b + rb = Lc → am_R xs LL cd_X12_race (am_X xs LL (d + 6)) 30 [some (.ref 47), some (.int x), some (.int (nI n)), some (.int (nI a)), some (.int (nI b))] [] (hG σ sr ln Lc ν) (some (.int (pu_rk (pu_rmB sr ln (ν 24)) x Lc ra a (pu_ri (pu_rmB sr ln (ν 24)) x a rb b n)))) (hG σ sr ln Lc ν) := by
        intro rb
        induction rb with
        | zero =>
          intro b n hab hr
          have hr3 : b = Lc := by omega
          rw [hr3]
          refine am_g 3 36 [some (.ref 47), some (.int x), some (.int (nI n)), some (.int (nI a)), some (.int (nI Lc))] [.int (ν 17 0), .int (nI Lc)] (hG σ sr ln Lc ν) rfl ?_
          rw [show (ν 17 0) = (nI Lc) from hRL.1]
          refine am_g 1 (if (nI Lc) ≤ (nI Lc) then 74 else 39) [some (.ref 47), some (.int x), some (.int (nI n)), some (.int (nI a)), some (.int (nI Lc))] [] (hG σ sr ln Lc ν) rfl ?_
          rw [if_pos (show (nI Lc) ≤ (nI Lc) from (am_dle (a := Lc) (b := Lc) (rfl) (rfl) (by omega) (by omega) (by omega)))]
          refine am_g 2 17 [some (.ref 47), some (.int x), some (.int (nI n)), some (.int ((nI a) + 1)), some (.int (nI Lc))] [] (hG σ sr ln Lc ν) rfl ?_
          rw [nI_up]
          exact iho (a + 1) n _ (by omega)
        | succ rb ihi =>
          intro b n hab hr
          have hr3 : b < Lc := by omega
          refine am_g 3 36 [some (.ref 47), some (.int x), some (.int (nI n)), some (.int (nI a)), some (.int (nI b))] [.int (ν 17 0), .int (nI b)] (hG σ sr ln Lc ν) rfl ?_
          rw [show (ν 17 0) = (nI Lc) from hRL.1]
          refine am_g 1 (if (nI Lc) ≤ (nI b) then 74 else 39) [some (.ref 47), some (.int x), some (.int (nI n)), some (.int (nI a)), some (.int (nI b))] [] (hG σ sr ln Lc ν) rfl ?_
          rw [if_neg (show ¬ (nI Lc) ≤ (nI b) from (am_dnle (a := Lc) (b := b) (rfl) (rfl) (by omega) (by omega) (by omega)))]
          refine am_g 3 43 [some (.ref 47), some (.int x), some (.int (nI n)), some (.int (nI a)), some (.int (nI b))] [.int (nI b), .int (nI a), .ref 47] (hG σ sr ln Lc ν) rfl ?_
          cases e2 : pu_rmB sr ln (ν 24) a b with
          | false =>
            refine am_call (y := 194) (vs := [.ref 47, .int (nI a), .int (nI b)]) (rest := []) (v := (some (.int 0))) (h1 := (hG σ sr ln Lc ν)) rfl rfl rfl (sp_X12_isRace (d + 4) hL hsr hRL hwl a b hr2 hr3 e2) ?_
            refine am_g 4 30 [some (.ref 47), some (.int x), some (.int (nI n)), some (.int (nI a)), some (.int ((nI b) + 1))] [] (hG σ sr ln Lc ν) rfl ?_
            rw [pu_ri_f e2, nI_up]
            exact ihi (b + 1) n (by omega) (by omega)
          | true =>
            refine am_call (y := 194) (vs := [.ref 47, .int (nI a), .int (nI b)]) (rest := []) (v := (some (.int 1))) (h1 := (hG σ sr ln Lc ν)) rfl rfl rfl (sp_X12_isRace (d + 4) hL hsr hRL hwl a b hr2 hr3 e2) ?_
            refine am_g 4 (if (nI n) = x then 57 else 65) [some (.ref 47), some (.int x), some (.int (nI n)), some (.int (nI a)), some (.int (nI b))] [] (hG σ sr ln Lc ν) rfl (am_brR (fun c3 => ?_) (fun c3 => ?_))
            · skip
              refine am_g 5 64 [some (.ref 47), some (.int x), some (.int (nI n)), some (.int (nI a)), some (.int (nI b))] [.int ((100 * (nI a)) + (nI b))] (hG σ sr ln Lc ν) rfl ?_
              rw [pu_ri_t1 e2 c3]; exact am_ret2 rfl rfl rfl (by rw [show ((100 * (nI a)) + (nI b)) = nI (100 * a + b) from by simp only [show (100 : Int32) = nI 100 from rfl, nI_mul2, nI_add]]; rfl) rfl
            · skip
              refine am_g 3 30 [some (.ref 47), some (.int x), some (.int ((nI n) + 1)), some (.int (nI a)), some (.int ((nI b) + 1))] [] (hG σ sr ln Lc ν) rfl ?_
              rw [pu_ri_t2 e2 c3, nI_up, nI_up]
              exact ihi (b + 1) (n + 1) (by omega) (by omega)
      have e := lpi (Lc - (a + 1)) (a + 1) n (by omega) (by omega)
      rw [nI_up]
      exact e
  exact lpo Lc 0 0 none (by omega)
theorem sp_X12_race_no (d : Nat) (x : Int32) (hx : ¬ -1 ≤ x) : am_X xs LL (d + 1) 195 [.ref 47, .int x] (hG σ sr ln Lc μ) (some (.int (-1))) (hG σ sr ln Lc μ) := by
  refine am_XR (d := d + 0) (C := cd_X12_race) (L := [some (.ref 47), some (.int x), none, none, none]) rfl rfl rfl rfl ?_
  refine am_g 3 (if (-1) ≤ x then 7 else 5) [some (.ref 47), some (.int x), none, none, none] [] (hG σ sr ln Lc μ) rfl ?_
  rw [if_neg (show ¬ (-1) ≤ x from hx)]
  refine am_g 1 6 [some (.ref 47), some (.int x), none, none, none] [.int (-1)] (hG σ sr ln Lc μ) rfl ?_
  exact am_ret2 rfl rfl rfl rfl rfl
end RC
