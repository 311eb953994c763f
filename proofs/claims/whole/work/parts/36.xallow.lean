/-! the class: what a line allows -/
theorem am_itS {α : Type} (f : Nat → α → α) (a : α) (n : Nat) : am_it f a (n + 1) = f n (am_it f a n) := rfl
def am_okW (kf W : Nat → Int32) : Prop := ∀ x, am_pl 68 x → ∀ p, p < 16 → am_hb (am_hat W x) p = true → am_pl 8 (kf p)
def am_clS (ro W f : Nat → Int32) (g : Int32) (o : Nat) (B : Nat → Int32) : Nat → Int32 := if g = -1 then B else am_add (am_add (am_add B (ro (3 * g.toNatClampNeg + 0)) (1 <<< (nI o &&& 31))) (ro (3 * g.toNatClampNeg + 1)) (am_hat W (f 7))) (f 0) (am_hat W (ro (3 * g.toNatClampNeg + 2)))
def am_rdS (W : Nat → Int32) (m x : Int32) (n o : Nat) (B : Nat → Int32) : Nat → Int32 := bif am_hb m o then am_add B x (am_hat W (nI (20 + 3 * o + n))) else B
def am_wrS (m v : Int32) (n o : Nat) (B : Nat → Int32) : Nat → Int32 := bif am_hb m o then am_add B (nI (20 + 3 * o + n)) v else B
def am_caS (kf ab ow ro W f : Nat → Int32) (m : Int32) (n o : Nat) (B : Nat → Int32) : Nat → Int32 := bif am_hb m o then am_clS ro W f (am_aimF ab ow n 9 (kf o)) o B else B
def am_alw (kf ab ow ro : Nat → Int32) (bk : Bool) (s : Nat) (f W A : Nat → Int32) : Nat → Int32 := match s with
  | 0 => am_add A (f 0) (am_hat W (f 1))
  | 1 => am_add A (f 0) (am_orF (am_okF ab kf (am_hat W (f 1)) (f 2)) 16)
  | 2 => am_it (am_rdS W (am_hat W (f 1)) (f 0) (f 2).toNatClampNeg) A 16
  | 3 => am_it (am_wrS (am_hat W (f 0)) (am_hat W (f 1)) (f 2).toNatClampNeg) A 16
  | 4 => am_it (am_caS kf ab ow ro W f (am_hat W (f 1)) (f 2).toNatClampNeg) A 16
  | _ => am_add A (f 0) (1 <<< ((bif bk then f 2 else f 7) &&& 31))
/-- a line as it may be: x, y, the number, z or the object, whether it is on, in, thread, lock -/
def am_wl (s : Nat) (f : Nat → Int32) : Prop := (∃ a, a < 20 ∧ f 0 = nI a) ∧ am_pl 20 (f 1) ∧ (s ≠ 5 → ∃ b, b < 20 ∧ f 1 = nI b) ∧ (s = 5 → f 1 = -1) ∧ (2 ≤ s → s ≤ 4 → ∃ n, n < 3 ∧ f 2 = nI n) ∧ (s = 1 ∨ s = 5 → ∃ n, n < 8 ∧ f 2 = nI n) ∧ (s = 0 → f 2 = -1) ∧ (s = 4 → ∃ z, z < 20 ∧ f 7 = nI z) ∧ (s = 5 → ∃ o, o < 16 ∧ f 7 = nI o) ∧ (f 6 = 0 ∨ f 6 = 1) ∧ (∃ t, t < 3 ∧ f 3 = nI t) ∧ (∃ t, t < 4 ∧ f 4 = nI t) ∧ am_pl 6 (f 5)
theorem am_aimF_pl {ab ow : Nat → Int32} (hab : am_wab ab) (how : ∀ p, p < 24 → am_pl 6 (ow p)) {a : Nat} (ha : a < 3) : ∀ (f : Nat) (kk : Int32), am_pl 8 kk → am_pl 6 (am_aimF ab ow a f kk) := by
  intro f
  induction f with
  | zero => intro kk _; exact Or.inl rfl
  | succ f ih =>
    intro kk hk
    rcases hk with rfl | ⟨j, hj, rfl⟩
    · rw [am_aimF_no]; exact Or.inl rfl
    · by_cases h : ow (3 * j + a) = -1
      · rw [am_aimF_up (by omega) h]
        exact ih _ ((hab j hj).imp id (fun ⟨i, h1, h2⟩ => ⟨i, by omega, h2⟩))
      · rw [am_aimF_at (by omega) h]
        exact how _ (by omega)
theorem am_roI {g : Int32} {q : Nat} (hg : ∃ f, f < 6 ∧ g = nI f) (hq : q < 3) : 3 * g.toNatClampNeg + q < 18 := by
  obtain ⟨f, hf, rfl⟩ := hg
  rw [nI_clamp (by omega)]
  omega
section XA
variable {xs : Nat → Int32} {LL : Nat} {σ μ : Nat → Nat → Int32} {sr : Nat → Nat} {ln : Nat → Nat → Int32} {Lc : Nat}
theorem sp_X3_nameOf_v (d : Nat) (g : Int32) (q : Nat) (hg : ∃ f, f < 6 ∧ g = nI f) (hq : q < 3) : am_X xs LL (d + 2) 28 [.ref 15, .int g, .int (nI q)] (hG σ sr ln Lc μ) (some (.int (σ 3 (3 * g.toNatClampNeg + q)))) (hG σ sr ln Lc μ) := by
  obtain ⟨f, hf, rfl⟩ := hg
  rw [nI_clamp (by omega)]
  exact sp_X3_nameOf d f q hf hq
theorem sp_X11_fieldPlace_v (d o f : Nat) (a b : Int32) (ha : a = nI o) (hb : b = nI f) (ho : o < 16) (hf : f < 3) (h : am_H) : am_X xs LL (d + 2) 127 [.int a, .int b] h (some (.int (nI (20 + 3 * o + f)))) h := by
  subst ha; subst hb
  exact sp_X11_fieldPlace d o f ho hf h
theorem sp_X7_aimOfPoint_v0 (d : Nat) (hab : am_wab (σ 1)) (p a : Nat) (v : Int32) (hv : v = nI a) (hp : p < 16) (ha : a < 3) (hk : am_pl 8 (am_kf σ false p)) : am_X xs LL (d + 3) 60 [.ref 23, .int (nI p), .int v] (hG σ sr ln Lc μ) (some (.int (am_aimF (σ 1) (σ 2) a 9 (am_kf σ false p)))) (hG σ sr ln Lc μ) := by
  subst hv
  exact sp_X7_aimOfPoint_0 d hab p a hp ha hk
theorem sp_X2_allow_0 (d : Nat) (i : Nat) (hi : i < Lc) (hs : sr i = 0) (h0 : am_pl 68 (ln i 0)) (h1 : am_pl 68 (ln i 1)) : am_X xs LL (d + 2) 18 [.ref (75 + i), .ref 23] (hG σ sr ln Lc μ) none (hG (am_up σ 13 (am_add (σ 13) (ln i 0) (am_hat (σ 12) (ln i 1)))) sr ln Lc μ) := by
  refine am_XR (d := d + 1) (C := cd_X2_allow) (L := [some (.ref (75 + i)), some (.ref 23)]) rfl rfl rfl rfl ?_
  refine am_g 2 2 [some (.ref (75 + i)), some (.ref 23)] [.ref (75 + i), .ref 23] (hG σ sr ln Lc μ) rfl ?_
  refine am_lgetR (i := i) (k := 0) rfl (by omega) (by decide) (by rw [hs]; exact ⟨_, rfl⟩) ?_
  refine am_g 2 7 [some (.ref (75 + i)), some (.ref 23)] [.ref (75 + i), .ref 23, .int (ln i 0), .ref 23] (hG σ sr ln Lc μ) rfl ?_
  refine am_lgetR (i := i) (k := 1) rfl (by omega) (by decide) (by rw [hs]; exact ⟨_, rfl⟩) ?_
  refine am_call (y := 56) (vs := [.ref 23, .int (ln i 1)]) (rest := [.int (ln i 0), .ref 23]) (v := (some (.int (am_hat (σ 12) (ln i 1))))) (h1 := (hG σ sr ln Lc μ)) rfl rfl rfl (sp_X7_heldAt_0 (σ := σ) (μ := μ) d _ h1) ?_
  refine am_call (y := 57) (vs := [.ref 23, .int (ln i 0), .int (am_hat (σ 12) (ln i 1))]) (rest := []) (v := none) (h1 := (hG (am_up σ 13 (am_add (σ 13) (ln i 0) (am_hat (σ 12) (ln i 1)))) sr ln Lc μ)) rfl rfl rfl (sp_X7_add_0 (σ := σ) (μ := μ) d _ _ h0) ?_
  exact am_ret2 rfl rfl rfl rfl rfl
theorem sp_X1_allow_0 (d : Nat) (i : Nat) (hi : i < Lc) (hs : sr i = 1) (h0 : am_pl 68 (ln i 0)) (h1 : am_pl 68 (ln i 1)) (hab : am_wab (σ 1)) (hok : am_okW (am_kf σ false) (σ 12)) : am_X xs LL (d + 4) 10 [.ref (75 + i), .ref 23] (hG σ sr ln Lc μ) none (hG (am_up σ 13 (am_add (σ 13) (ln i 0) (am_orF (am_okF (σ 1) (am_kf σ false) (am_hat (σ 12) (ln i 1)) (ln i 2)) 16))) sr ln Lc μ) := by
  refine am_XR (d := d + 3) (C := cd_X1_allow) (L := [some (.ref (75 + i)), some (.ref 23)]) rfl rfl rfl rfl ?_
  refine am_g 2 2 [some (.ref (75 + i)), some (.ref 23)] [.ref (75 + i), .ref 23] (hG σ sr ln Lc μ) rfl ?_
  refine am_lgetR (i := i) (k := 0) rfl (by omega) (by decide) (by rw [hs]; exact ⟨_, rfl⟩) ?_
  refine am_g 3 8 [some (.ref (75 + i)), some (.ref 23)] [.ref (75 + i), .ref 23, .ref 23, .int (ln i 0), .ref 23] (hG σ sr ln Lc μ) rfl ?_
  refine am_lgetR (i := i) (k := 1) rfl (by omega) (by decide) (by rw [hs]; exact ⟨_, rfl⟩) ?_
  refine am_call (y := 56) (vs := [.ref 23, .int (ln i 1)]) (rest := [.ref 23, .int (ln i 0), .ref 23]) (v := (some (.int (am_hat (σ 12) (ln i 1))))) (h1 := (hG σ sr ln Lc μ)) rfl rfl rfl (sp_X7_heldAt_0 (σ := σ) (μ := μ) (d + 2) _ h1) ?_
  refine am_g 1 15 [some (.ref (75 + i)), some (.ref 23)] [.ref (75 + i), .int (am_hat (σ 12) (ln i 1)), .ref 23, .int (ln i 0), .ref 23] (hG σ sr ln Lc μ) rfl ?_
  refine am_lgetR (i := i) (k := 2) rfl (by omega) (by decide) (by rw [hs]; exact ⟨_, rfl⟩) ?_
  refine am_call (y := 61) (vs := [.ref 23, .int (am_hat (σ 12) (ln i 1)), .int (ln i 2)]) (rest := [.int (ln i 0), .ref 23]) (v := (some (.int (am_orF (am_okF (σ 1) (am_kf σ false) (am_hat (σ 12) (ln i 1)) (ln i 2)) 16)))) (h1 := (hG σ sr ln Lc μ)) rfl rfl rfl (sp_X7_partUnder_0 (σ := σ) (μ := μ) d hab _ _ (hok _ h1)) ?_
  refine am_call (y := 57) (vs := [.ref 23, .int (ln i 0), .int (am_orF (am_okF (σ 1) (am_kf σ false) (am_hat (σ 12) (ln i 1)) (ln i 2)) 16)]) (rest := []) (v := none) (h1 := (hG (am_up σ 13 (am_add (σ 13) (ln i 0) (am_orF (am_okF (σ 1) (am_kf σ false) (am_hat (σ 12) (ln i 1)) (ln i 2)) 16))) sr ln Lc μ)) rfl rfl rfl (sp_X7_add_0 (σ := σ) (μ := μ) (d + 2) _ _ h0) ?_
  exact am_ret2 rfl rfl rfl rfl rfl
theorem sp_X5_allow_0 (d : Nat) (i : Nat) (hi : i < Lc) (hs : sr i = 5) (h0 : am_pl 68 (ln i 0)) : am_X xs LL (d + 2) 43 [.ref (75 + i), .ref 23] (hG σ sr ln Lc μ) none (hG (am_up σ 13 (am_add (σ 13) (ln i 0) (1 <<< ((ln i 7) &&& 31)))) sr ln Lc μ) := by
  refine am_XR (d := d + 1) (C := cd_X5_allow) (L := [some (.ref (75 + i)), some (.ref 23)]) rfl rfl rfl rfl ?_
  refine am_g 2 2 [some (.ref (75 + i)), some (.ref 23)] [.ref (75 + i), .ref 23] (hG σ sr ln Lc μ) rfl ?_
  refine am_lgetR (i := i) (k := 0) rfl (by omega) (by decide) (by rw [hs]; exact ⟨_, rfl⟩) ?_
  refine am_g 5 21 [some (.ref (75 + i)), some (.ref 23)] [.ref (75 + i), .int 1, .int (ln i 0), .ref 23] (hG σ sr ln Lc μ) rfl ?_
  refine am_lget7R (i := i) rfl (by omega) (by rw [hs]; rfl) (by rw [hs]; exact ⟨_, rfl⟩) ?_
  refine am_g 1 25 [some (.ref (75 + i)), some (.ref 23)] [.int (1 <<< ((ln i 7) &&& 31)), .int (ln i 0), .ref 23] (hG σ sr ln Lc μ) rfl ?_
  refine am_call (y := 57) (vs := [.ref 23, .int (ln i 0), .int (1 <<< ((ln i 7) &&& 31))]) (rest := []) (v := none) (h1 := (hG (am_up σ 13 (am_add (σ 13) (ln i 0) (1 <<< ((ln i 7) &&& 31)))) sr ln Lc μ)) rfl rfl rfl (sp_X7_add_0 (σ := σ) (μ := μ) d _ _ h0) ?_
  exact am_ret2 rfl rfl rfl rfl rfl
theorem sp_X6_allow_0 (d : Nat) (i : Nat) (hi : i < Lc) (hs : sr i = 2) {n : Nat} (hn : ln i 2 = nI n) (hn3 : n < 3) (h0 : am_pl 68 (ln i 0)) (h1 : am_pl 68 (ln i 1)) : am_X xs LL (d + 3) 49 [.ref (75 + i), .ref 23] (hG σ sr ln Lc μ) none (hG (am_up σ 13 (am_it (am_rdS (σ 12) (am_hat (σ 12) (ln i 1)) (ln i 0) n) (σ 13) 16)) sr ln Lc μ) := by
  refine am_XR (d := d + 2) (C := cd_X6_allow) (L := [some (.ref (75 + i)), some (.ref 23), none, none]) rfl rfl rfl rfl ?_
  refine am_g 2 2 [some (.ref (75 + i)), some (.ref 23), none, none] [.ref (75 + i), .ref 23] (hG σ sr ln Lc μ) rfl ?_
  refine am_lgetR (i := i) (k := 1) rfl (by omega) (by decide) (by rw [hs]; exact ⟨_, rfl⟩) ?_
  refine am_call (y := 56) (vs := [.ref 23, .int (ln i 1)]) (rest := []) (v := (some (.int (am_hat (σ 12) (ln i 1))))) (h1 := (hG σ sr ln Lc μ)) rfl rfl rfl (sp_X7_heldAt_0 (σ := σ) (μ := μ) (d + 1) _ h1) ?_
  refine am_g 3 11 [some (.ref (75 + i)), some (.ref 23), some (.int (am_hat (σ 12) (ln i 1))), some (.int 0)] [] (hG σ sr ln Lc μ) rfl ?_
  have lp : ∀ (r o : Nat), o + r = 16 → am_R xs LL cd_X6_allow (am_X xs LL (d + 2)) 11 [some (.ref (75 + i)), some (.ref 23), some (.int (am_hat (σ 12) (ln i 1))), some (.int (nI o))] [] (hG (am_up σ 13 (am_it (am_rdS (σ 12) (am_hat (σ 12) (ln i 1)) (ln i 0) n) (σ 13) o)) sr ln Lc μ) none (hG (am_up σ 13 (am_it (am_rdS (σ 12) (am_hat (σ 12) (ln i 1)) (ln i 0) n) (σ 13) 16)) sr ln Lc μ) := by
    intro r
    induction r with
    | zero =>
      intro o  hi
      have hi2 : o = 16 := by omega
      rw [hi2]
      refine am_g 3 (if 16 ≤ (nI 16) then 51 else 17) [some (.ref (75 + i)), some (.ref 23), some (.int (am_hat (σ 12) (ln i 1))), some (.int (nI 16))] [] (hG (am_up σ 13 (am_it (am_rdS (σ 12) (am_hat (σ 12) (ln i 1)) (ln i 0) n) (σ 13) 16)) sr ln Lc μ) rfl ?_
      rw [if_pos (show 16 ≤ (nI 16) from (am_dle (a := 16) (b := 16) (rfl) (rfl) (by omega) (by omega) (by omega)))]
      exact am_ret2 rfl rfl rfl rfl rfl
    | succ r ih =>
      intro o  hi
      have hi2 : o < 16 := by omega
      refine am_g 3 (if 16 ≤ (nI o) then 51 else 17) [some (.ref (75 + i)), some (.ref 23), some (.int (am_hat (σ 12) (ln i 1))), some (.int (nI o))] [] (hG (am_up σ 13 (am_it (am_rdS (σ 12) (am_hat (σ 12) (ln i 1)) (ln i 0) n) (σ 13) o)) sr ln Lc μ) rfl ?_
      rw [if_neg (show ¬ 16 ≤ (nI o) from (am_dnle (a := 16) (b := o) (rfl) (rfl) (by omega) (by omega) (by omega)))]
      refine am_g 2 19 [some (.ref (75 + i)), some (.ref 23), some (.int (am_hat (σ 12) (ln i 1))), some (.int (nI o))] [.int (nI o), .int (am_hat (σ 12) (ln i 1))] (hG (am_up σ 13 (am_it (am_rdS (σ 12) (am_hat (σ 12) (ln i 1)) (ln i 0) n) (σ 13) o)) sr ln Lc μ) rfl ?_
      cases e1 : am_hb (am_hat (σ 12) (ln i 1)) o with
      | false =>
        refine am_call (y := 126) (vs := [.int (am_hat (σ 12) (ln i 1)), .int (nI o)]) (rest := []) (v := (some (.int 0))) (h1 := (hG (am_up σ 13 (am_it (am_rdS (σ 12) (am_hat (σ 12) (ln i 1)) (ln i 0) n) (σ 13) o)) sr ln Lc μ)) rfl rfl rfl (sp_X11_hasBit (d + 1) _ _ _ e1) ?_
        refine am_g 3 11 [some (.ref (75 + i)), some (.ref 23), some (.int (am_hat (σ 12) (ln i 1))), some (.int ((nI o) + 1))] [] (hG (am_up σ 13 (am_it (am_rdS (σ 12) (am_hat (σ 12) (ln i 1)) (ln i 0) n) (σ 13) o)) sr ln Lc μ) rfl ?_
        rw [nI_up, ← (show am_it (am_rdS (σ 12) (am_hat (σ 12) (ln i 1)) (ln i 0) n) (σ 13) (o + 1) = (am_it (am_rdS (σ 12) (am_hat (σ 12) (ln i 1)) (ln i 0) n) (σ 13) o) from (by rw [am_itS]; unfold am_rdS; rw [e1]; rfl))]
        exact ih (o + 1) (by omega)
      | true =>
        refine am_call (y := 126) (vs := [.int (am_hat (σ 12) (ln i 1)), .int (nI o)]) (rest := []) (v := (some (.int 1))) (h1 := (hG (am_up σ 13 (am_it (am_rdS (σ 12) (am_hat (σ 12) (ln i 1)) (ln i 0) n) (σ 13) o)) sr ln Lc μ)) rfl rfl rfl (sp_X11_hasBit (d + 1) _ _ _ e1) ?_
        refine am_g 3 27 [some (.ref (75 + i)), some (.ref 23), some (.int (am_hat (σ 12) (ln i 1))), some (.int (nI o))] [.ref (75 + i), .ref 23] (hG (am_up σ 13 (am_it (am_rdS (σ 12) (am_hat (σ 12) (ln i 1)) (ln i 0) n) (σ 13) o)) sr ln Lc μ) rfl ?_
        refine am_lgetR (i := i) (k := 0) rfl (by omega) (by decide) (by rw [hs]; exact ⟨_, rfl⟩) ?_
        refine am_g 3 33 [some (.ref (75 + i)), some (.ref 23), some (.int (am_hat (σ 12) (ln i 1))), some (.int (nI o))] [.ref (75 + i), .int (nI o), .ref 23, .int (ln i 0), .ref 23] (hG (am_up σ 13 (am_it (am_rdS (σ 12) (am_hat (σ 12) (ln i 1)) (ln i 0) n) (σ 13) o)) sr ln Lc μ) rfl ?_
        refine am_lgetR (i := i) (k := 2) rfl (by omega) (by decide) (by rw [hs]; exact ⟨_, rfl⟩) ?_
        refine am_call (y := 127) (vs := [.int (nI o), .int (ln i 2)]) (rest := [.ref 23, .int (ln i 0), .ref 23]) (v := (some (.int (nI (20 + 3 * o + n))))) (h1 := (hG (am_up σ 13 (am_it (am_rdS (σ 12) (am_hat (σ 12) (ln i 1)) (ln i 0) n) (σ 13) o)) sr ln Lc μ)) rfl rfl rfl (sp_X11_fieldPlace_v d o n _ _ (rfl) (hn) (by omega) (by omega) _) ?_
        refine am_call (y := 56) (vs := [.ref 23, .int (nI (20 + 3 * o + n))]) (rest := [.int (ln i 0), .ref 23]) (v := (some (.int (am_hat (σ 12) (nI (20 + 3 * o + n)))))) (h1 := (hG (am_up σ 13 (am_it (am_rdS (σ 12) (am_hat (σ 12) (ln i 1)) (ln i 0) n) (σ 13) o)) sr ln Lc μ)) rfl rfl rfl (sp_X7_heldAt_0 (σ := (am_up σ 13 (am_it (am_rdS (σ 12) (am_hat (σ 12) (ln i 1)) (ln i 0) n) (σ 13) o))) (μ := μ) (d + 1) _ (am_pl_nI (by omega))) ?_
        refine am_call (y := 57) (vs := [.ref 23, .int (ln i 0), .int (am_hat (σ 12) (nI (20 + 3 * o + n)))]) (rest := []) (v := none) (h1 := (hG (am_up σ 13 (am_add (am_it (am_rdS (σ 12) (am_hat (σ 12) (ln i 1)) (ln i 0) n) (σ 13) o) (ln i 0) (am_hat (σ 12) (nI (20 + 3 * o + n))))) sr ln Lc μ)) rfl rfl rfl (sp_X7_add_0 (σ := (am_up σ 13 (am_it (am_rdS (σ 12) (am_hat (σ 12) (ln i 1)) (ln i 0) n) (σ 13) o))) (μ := μ) (d + 1) _ _ h0) ?_
        refine am_g 2 11 [some (.ref (75 + i)), some (.ref 23), some (.int (am_hat (σ 12) (ln i 1))), some (.int ((nI o) + 1))] [] (hG (am_up σ 13 (am_add (am_it (am_rdS (σ 12) (am_hat (σ 12) (ln i 1)) (ln i 0) n) (σ 13) o) (ln i 0) (am_hat (σ 12) (nI (20 + 3 * o + n))))) sr ln Lc μ) rfl ?_
        rw [nI_up, ← (show am_it (am_rdS (σ 12) (am_hat (σ 12) (ln i 1)) (ln i 0) n) (σ 13) (o + 1) = (am_add (am_it (am_rdS (σ 12) (am_hat (σ 12) (ln i 1)) (ln i 0) n) (σ 13) o) (ln i 0) (am_hat (σ 12) (nI (20 + 3 * o + n)))) from (by rw [am_itS]; unfold am_rdS; rw [e1]; rfl))]
        exact ih (o + 1) (by omega)
  exact lp 16 0 (by omega)
theorem sp_X10_allow_0 (d : Nat) (i : Nat) (hi : i < Lc) (hs : sr i = 3) {n : Nat} (hn : ln i 2 = nI n) (hn3 : n < 3) (h0 : am_pl 68 (ln i 0)) (h1 : am_pl 68 (ln i 1)) : am_X xs LL (d + 3) 85 [.ref (75 + i), .ref 23] (hG σ sr ln Lc μ) none (hG (am_up σ 13 (am_it (am_wrS (am_hat (σ 12) (ln i 0)) (am_hat (σ 12) (ln i 1)) n) (σ 13) 16)) sr ln Lc μ) := by
  refine am_XR (d := d + 2) (C := cd_X10_allow) (L := [some (.ref (75 + i)), some (.ref 23), none, none]) rfl rfl rfl rfl ?_
  refine am_g 2 2 [some (.ref (75 + i)), some (.ref 23), none, none] [.ref (75 + i), .ref 23] (hG σ sr ln Lc μ) rfl ?_
  refine am_lgetR (i := i) (k := 0) rfl (by omega) (by decide) (by rw [hs]; exact ⟨_, rfl⟩) ?_
  refine am_call (y := 56) (vs := [.ref 23, .int (ln i 0)]) (rest := []) (v := (some (.int (am_hat (σ 12) (ln i 0))))) (h1 := (hG σ sr ln Lc μ)) rfl rfl rfl (sp_X7_heldAt_0 (σ := σ) (μ := μ) (d + 1) _ h0) ?_
  refine am_g 3 11 [some (.ref (75 + i)), some (.ref 23), some (.int (am_hat (σ 12) (ln i 0))), some (.int 0)] [] (hG σ sr ln Lc μ) rfl ?_
  have lp : ∀ (r o : Nat), o + r = 16 → am_R xs LL cd_X10_allow (am_X xs LL (d + 2)) 11 [some (.ref (75 + i)), some (.ref 23), some (.int (am_hat (σ 12) (ln i 0))), some (.int (nI o))] [] (hG (am_up σ 13 (am_it (am_wrS (am_hat (σ 12) (ln i 0)) (am_hat (σ 12) (ln i 1)) n) (σ 13) o)) sr ln Lc μ) none (hG (am_up σ 13 (am_it (am_wrS (am_hat (σ 12) (ln i 0)) (am_hat (σ 12) (ln i 1)) n) (σ 13) 16)) sr ln Lc μ) := by
    intro r
    induction r with
    | zero =>
      intro o  hi
      have hi2 : o = 16 := by omega
      rw [hi2]
      refine am_g 3 (if 16 ≤ (nI 16) then 51 else 17) [some (.ref (75 + i)), some (.ref 23), some (.int (am_hat (σ 12) (ln i 0))), some (.int (nI 16))] [] (hG (am_up σ 13 (am_it (am_wrS (am_hat (σ 12) (ln i 0)) (am_hat (σ 12) (ln i 1)) n) (σ 13) 16)) sr ln Lc μ) rfl ?_
      rw [if_pos (show 16 ≤ (nI 16) from (am_dle (a := 16) (b := 16) (rfl) (rfl) (by omega) (by omega) (by omega)))]
      exact am_ret2 rfl rfl rfl rfl rfl
    | succ r ih =>
      intro o  hi
      have hi2 : o < 16 := by omega
      refine am_g 3 (if 16 ≤ (nI o) then 51 else 17) [some (.ref (75 + i)), some (.ref 23), some (.int (am_hat (σ 12) (ln i 0))), some (.int (nI o))] [] (hG (am_up σ 13 (am_it (am_wrS (am_hat (σ 12) (ln i 0)) (am_hat (σ 12) (ln i 1)) n) (σ 13) o)) sr ln Lc μ) rfl ?_
      rw [if_neg (show ¬ 16 ≤ (nI o) from (am_dnle (a := 16) (b := o) (rfl) (rfl) (by omega) (by omega) (by omega)))]
      refine am_g 2 19 [some (.ref (75 + i)), some (.ref 23), some (.int (am_hat (σ 12) (ln i 0))), some (.int (nI o))] [.int (nI o), .int (am_hat (σ 12) (ln i 0))] (hG (am_up σ 13 (am_it (am_wrS (am_hat (σ 12) (ln i 0)) (am_hat (σ 12) (ln i 1)) n) (σ 13) o)) sr ln Lc μ) rfl ?_
      cases e1 : am_hb (am_hat (σ 12) (ln i 0)) o with
      | false =>
        refine am_call (y := 126) (vs := [.int (am_hat (σ 12) (ln i 0)), .int (nI o)]) (rest := []) (v := (some (.int 0))) (h1 := (hG (am_up σ 13 (am_it (am_wrS (am_hat (σ 12) (ln i 0)) (am_hat (σ 12) (ln i 1)) n) (σ 13) o)) sr ln Lc μ)) rfl rfl rfl (sp_X11_hasBit (d + 1) _ _ _ e1) ?_
        refine am_g 3 11 [some (.ref (75 + i)), some (.ref 23), some (.int (am_hat (σ 12) (ln i 0))), some (.int ((nI o) + 1))] [] (hG (am_up σ 13 (am_it (am_wrS (am_hat (σ 12) (ln i 0)) (am_hat (σ 12) (ln i 1)) n) (σ 13) o)) sr ln Lc μ) rfl ?_
        rw [nI_up, ← (show am_it (am_wrS (am_hat (σ 12) (ln i 0)) (am_hat (σ 12) (ln i 1)) n) (σ 13) (o + 1) = (am_it (am_wrS (am_hat (σ 12) (ln i 0)) (am_hat (σ 12) (ln i 1)) n) (σ 13) o) from (by rw [am_itS]; unfold am_wrS; rw [e1]; rfl))]
        exact ih (o + 1) (by omega)
      | true =>
        refine am_call (y := 126) (vs := [.int (am_hat (σ 12) (ln i 0)), .int (nI o)]) (rest := []) (v := (some (.int 1))) (h1 := (hG (am_up σ 13 (am_it (am_wrS (am_hat (σ 12) (ln i 0)) (am_hat (σ 12) (ln i 1)) n) (σ 13) o)) sr ln Lc μ)) rfl rfl rfl (sp_X11_hasBit (d + 1) _ _ _ e1) ?_
        refine am_g 4 28 [some (.ref (75 + i)), some (.ref 23), some (.int (am_hat (σ 12) (ln i 0))), some (.int (nI o))] [.ref (75 + i), .int (nI o), .ref 23] (hG (am_up σ 13 (am_it (am_wrS (am_hat (σ 12) (ln i 0)) (am_hat (σ 12) (ln i 1)) n) (σ 13) o)) sr ln Lc μ) rfl ?_
        refine am_lgetR (i := i) (k := 2) rfl (by omega) (by decide) (by rw [hs]; exact ⟨_, rfl⟩) ?_
        refine am_call (y := 127) (vs := [.int (nI o), .int (ln i 2)]) (rest := [.ref 23]) (v := (some (.int (nI (20 + 3 * o + n))))) (h1 := (hG (am_up σ 13 (am_it (am_wrS (am_hat (σ 12) (ln i 0)) (am_hat (σ 12) (ln i 1)) n) (σ 13) o)) sr ln Lc μ)) rfl rfl rfl (sp_X11_fieldPlace_v d o n _ _ (rfl) (hn) (by omega) (by omega) _) ?_
        refine am_g 2 36 [some (.ref (75 + i)), some (.ref 23), some (.int (am_hat (σ 12) (ln i 0))), some (.int (nI o))] [.ref (75 + i), .ref 23, .int (nI (20 + 3 * o + n)), .ref 23] (hG (am_up σ 13 (am_it (am_wrS (am_hat (σ 12) (ln i 0)) (am_hat (σ 12) (ln i 1)) n) (σ 13) o)) sr ln Lc μ) rfl ?_
        refine am_lgetR (i := i) (k := 1) rfl (by omega) (by decide) (by rw [hs]; exact ⟨_, rfl⟩) ?_
        refine am_call (y := 56) (vs := [.ref 23, .int (ln i 1)]) (rest := [.int (nI (20 + 3 * o + n)), .ref 23]) (v := (some (.int (am_hat (σ 12) (ln i 1))))) (h1 := (hG (am_up σ 13 (am_it (am_wrS (am_hat (σ 12) (ln i 0)) (am_hat (σ 12) (ln i 1)) n) (σ 13) o)) sr ln Lc μ)) rfl rfl rfl (sp_X7_heldAt_0 (σ := (am_up σ 13 (am_it (am_wrS (am_hat (σ 12) (ln i 0)) (am_hat (σ 12) (ln i 1)) n) (σ 13) o))) (μ := μ) (d + 1) _ h1) ?_
        refine am_call (y := 57) (vs := [.ref 23, .int (nI (20 + 3 * o + n)), .int (am_hat (σ 12) (ln i 1))]) (rest := []) (v := none) (h1 := (hG (am_up σ 13 (am_add (am_it (am_wrS (am_hat (σ 12) (ln i 0)) (am_hat (σ 12) (ln i 1)) n) (σ 13) o) (nI (20 + 3 * o + n)) (am_hat (σ 12) (ln i 1)))) sr ln Lc μ)) rfl rfl rfl (sp_X7_add_0 (σ := (am_up σ 13 (am_it (am_wrS (am_hat (σ 12) (ln i 0)) (am_hat (σ 12) (ln i 1)) n) (σ 13) o))) (μ := μ) (d + 1) _ _ (am_pl_nI (by omega))) ?_
        refine am_g 2 11 [some (.ref (75 + i)), some (.ref 23), some (.int (am_hat (σ 12) (ln i 0))), some (.int ((nI o) + 1))] [] (hG (am_up σ 13 (am_add (am_it (am_wrS (am_hat (σ 12) (ln i 0)) (am_hat (σ 12) (ln i 1)) n) (σ 13) o) (nI (20 + 3 * o + n)) (am_hat (σ 12) (ln i 1)))) sr ln Lc μ) rfl ?_
        rw [nI_up, ← (show am_it (am_wrS (am_hat (σ 12) (ln i 0)) (am_hat (σ 12) (ln i 1)) n) (σ 13) (o + 1) = (am_add (am_it (am_wrS (am_hat (σ 12) (ln i 0)) (am_hat (σ 12) (ln i 1)) n) (σ 13) o) (nI (20 + 3 * o + n)) (am_hat (σ 12) (ln i 1))) from (by rw [am_itS]; unfold am_wrS; rw [e1]; rfl))]
        exact ih (o + 1) (by omega)
  exact lp 16 0 (by omega)
theorem sp_X0_allow_0 (d : Nat) (i : Nat) (hi : i < Lc) (hs : sr i = 4) {n : Nat} (hn : ln i 2 = nI n) (hn3 : n < 3) (h0 : am_pl 68 (ln i 0)) (h1 : am_pl 68 (ln i 1)) (h7 : am_pl 68 (ln i 7)) (hab : am_wab (σ 1)) (how : ∀ p, p < 24 → am_pl 6 (σ 2 p)) (hro : ∀ p, p < 18 → am_pl 20 (σ 3 p)) (hok : am_okW (am_kf σ false) (σ 12)) : am_X xs LL (d + 4) 5 [.ref (75 + i), .ref 23] (hG σ sr ln Lc μ) none (hG (am_up σ 13 (am_it (am_caS (am_kf σ false) (σ 1) (σ 2) (σ 3) (σ 12) (ln i) (am_hat (σ 12) (ln i 1)) n) (σ 13) 16)) sr ln Lc μ) := by
  refine am_XR (d := d + 3) (C := cd_X0_allow) (L := [some (.ref (75 + i)), some (.ref 23), none, none, none]) rfl rfl rfl rfl ?_
  refine am_g 2 2 [some (.ref (75 + i)), some (.ref 23), none, none, none] [.ref (75 + i), .ref 23] (hG σ sr ln Lc μ) rfl ?_
  refine am_lgetR (i := i) (k := 1) rfl (by omega) (by decide) (by rw [hs]; exact ⟨_, rfl⟩) ?_
  refine am_call (y := 56) (vs := [.ref 23, .int (ln i 1)]) (rest := []) (v := (some (.int (am_hat (σ 12) (ln i 1))))) (h1 := (hG σ sr ln Lc μ)) rfl rfl rfl (sp_X7_heldAt_0 (σ := σ) (μ := μ) (d + 2) _ h1) ?_
  refine am_g 3 11 [some (.ref (75 + i)), some (.ref 23), some (.int (am_hat (σ 12) (ln i 1))), some (.int 0), none] [] (hG σ sr ln Lc μ) rfl ?_
  have lp : ∀ (r o : Nat) (pl : Option Value), o + r = 16 → am_R xs LL cd_X0_allow (am_X xs LL (d + 3)) 11 [some (.ref (75 + i)), some (.ref 23), some (.int (am_hat (σ 12) (ln i 1))), some (.int (nI o)), pl] [] (hG (am_up σ 13 (am_it (am_caS (am_kf σ false) (σ 1) (σ 2) (σ 3) (σ 12) (ln i) (am_hat (σ 12) (ln i 1)) n) (σ 13) o)) sr ln Lc μ) none (hG (am_up σ 13 (am_it (am_caS (am_kf σ false) (σ 1) (σ 2) (σ 3) (σ 12) (ln i) (am_hat (σ 12) (ln i 1)) n) (σ 13) 16)) sr ln Lc μ) := by
    intro r
    induction r with
    | zero =>
      intro o pl hi
      have hi2 : o = 16 := by omega
      rw [hi2]
      refine am_g 3 (if 16 ≤ (nI 16) then 113 else 17) [some (.ref (75 + i)), some (.ref 23), some (.int (am_hat (σ 12) (ln i 1))), some (.int (nI 16)), pl] [] (hG (am_up σ 13 (am_it (am_caS (am_kf σ false) (σ 1) (σ 2) (σ 3) (σ 12) (ln i) (am_hat (σ 12) (ln i 1)) n) (σ 13) 16)) sr ln Lc μ) rfl ?_
      rw [if_pos (show 16 ≤ (nI 16) from (am_dle (a := 16) (b := 16) (rfl) (rfl) (by omega) (by omega) (by omega)))]
      exact am_ret2 rfl rfl rfl rfl rfl
    | succ r ih =>
      intro o pl hi
      have hi2 : o < 16 := by omega
      refine am_g 3 (if 16 ≤ (nI o) then 113 else 17) [some (.ref (75 + i)), some (.ref 23), some (.int (am_hat (σ 12) (ln i 1))), some (.int (nI o)), pl] [] (hG (am_up σ 13 (am_it (am_caS (am_kf σ false) (σ 1) (σ 2) (σ 3) (σ 12) (ln i) (am_hat (σ 12) (ln i 1)) n) (σ 13) o)) sr ln Lc μ) rfl ?_
      rw [if_neg (show ¬ 16 ≤ (nI o) from (am_dnle (a := 16) (b := o) (rfl) (rfl) (by omega) (by omega) (by omega)))]
      refine am_g 2 19 [some (.ref (75 + i)), some (.ref 23), some (.int (am_hat (σ 12) (ln i 1))), some (.int (nI o)), pl] [.int (nI o), .int (am_hat (σ 12) (ln i 1))] (hG (am_up σ 13 (am_it (am_caS (am_kf σ false) (σ 1) (σ 2) (σ 3) (σ 12) (ln i) (am_hat (σ 12) (ln i 1)) n) (σ 13) o)) sr ln Lc μ) rfl ?_
      cases e1 : am_hb (am_hat (σ 12) (ln i 1)) o with
      | false =>
        refine am_call (y := 126) (vs := [.int (am_hat (σ 12) (ln i 1)), .int (nI o)]) (rest := []) (v := (some (.int 0))) (h1 := (hG (am_up σ 13 (am_it (am_caS (am_kf σ false) (σ 1) (σ 2) (σ 3) (σ 12) (ln i) (am_hat (σ 12) (ln i 1)) n) (σ 13) o)) sr ln Lc μ)) rfl rfl rfl (sp_X11_hasBit (d + 2) _ _ _ e1) ?_
        refine am_g 8 11 [some (.ref (75 + i)), some (.ref 23), some (.int (am_hat (σ 12) (ln i 1))), some (.int ((nI o) + 1)), some (.int (-1))] [] (hG (am_up σ 13 (am_it (am_caS (am_kf σ false) (σ 1) (σ 2) (σ 3) (σ 12) (ln i) (am_hat (σ 12) (ln i 1)) n) (σ 13) o)) sr ln Lc μ) rfl ?_
        rw [nI_up, ← (show am_it (am_caS (am_kf σ false) (σ 1) (σ 2) (σ 3) (σ 12) (ln i) (am_hat (σ 12) (ln i 1)) n) (σ 13) (o + 1) = (am_it (am_caS (am_kf σ false) (σ 1) (σ 2) (σ 3) (σ 12) (ln i) (am_hat (σ 12) (ln i 1)) n) (σ 13) o) from (by rw [am_itS]; unfold am_caS; rw [e1]; rfl))]
        exact ih (o + 1) _ (by omega)
      | true =>
        refine am_call (y := 126) (vs := [.int (am_hat (σ 12) (ln i 1)), .int (nI o)]) (rest := []) (v := (some (.int 1))) (h1 := (hG (am_up σ 13 (am_it (am_caS (am_kf σ false) (σ 1) (σ 2) (σ 3) (σ 12) (ln i) (am_hat (σ 12) (ln i 1)) n) (σ 13) o)) sr ln Lc μ)) rfl rfl rfl (sp_X11_hasBit (d + 2) _ _ _ e1) ?_
        refine am_g 4 28 [some (.ref (75 + i)), some (.ref 23), some (.int (am_hat (σ 12) (ln i 1))), some (.int (nI o)), pl] [.ref (75 + i), .int (nI o), .ref 23] (hG (am_up σ 13 (am_it (am_caS (am_kf σ false) (σ 1) (σ 2) (σ 3) (σ 12) (ln i) (am_hat (σ 12) (ln i 1)) n) (σ 13) o)) sr ln Lc μ) rfl ?_
        refine am_lgetR (i := i) (k := 2) rfl (by omega) (by decide) (by rw [hs]; exact ⟨_, rfl⟩) ?_
        refine am_call (y := 60) (vs := [.ref 23, .int (nI o), .int (ln i 2)]) (rest := []) (v := (some (.int (am_aimF (σ 1) (σ 2) n 9 (am_kf σ false o))))) (h1 := (hG (am_up σ 13 (am_it (am_caS (am_kf σ false) (σ 1) (σ 2) (σ 3) (σ 12) (ln i) (am_hat (σ 12) (ln i 1)) n) (σ 13) o)) sr ln Lc μ)) rfl rfl rfl (sp_X7_aimOfPoint_v0 (σ := (am_up σ 13 (am_it (am_caS (am_kf σ false) (σ 1) (σ 2) (σ 3) (σ 12) (ln i) (am_hat (σ 12) (ln i 1)) n) (σ 13) o))) (μ := μ) d hab o n _ (hn) (by omega) (by omega) (hok _ h1 o (by omega) e1)) ?_
        refine am_g 5 (if (am_aimF (σ 1) (σ 2) n 9 (am_kf σ false o)) = (-1) then 107 else 46) [some (.ref (75 + i)), some (.ref 23), some (.int (am_hat (σ 12) (ln i 1))), some (.int (nI o)), some (.int (am_aimF (σ 1) (σ 2) n 9 (am_kf σ false o)))] [] (hG (am_up σ 13 (am_it (am_caS (am_kf σ false) (σ 1) (σ 2) (σ 3) (σ 12) (ln i) (am_hat (σ 12) (ln i 1)) n) (σ 13) o)) sr ln Lc μ) rfl (am_brR (fun c2 => ?_) (fun c2 => ?_))
        · skip
          refine am_g 2 11 [some (.ref (75 + i)), some (.ref 23), some (.int (am_hat (σ 12) (ln i 1))), some (.int ((nI o) + 1)), some (.int (am_aimF (σ 1) (σ 2) n 9 (am_kf σ false o)))] [] (hG (am_up σ 13 (am_it (am_caS (am_kf σ false) (σ 1) (σ 2) (σ 3) (σ 12) (ln i) (am_hat (σ 12) (ln i 1)) n) (σ 13) o)) sr ln Lc μ) rfl ?_
          rw [nI_up, ← (show am_it (am_caS (am_kf σ false) (σ 1) (σ 2) (σ 3) (σ 12) (ln i) (am_hat (σ 12) (ln i 1)) n) (σ 13) (o + 1) = (am_it (am_caS (am_kf σ false) (σ 1) (σ 2) (σ 3) (σ 12) (ln i) (am_hat (σ 12) (ln i 1)) n) (σ 13) o) from (by rw [am_itS]; unfold am_caS am_clS; rw [e1, cond_true, if_pos c2]; try rfl))]
          exact ih (o + 1) _ (by omega)
        · skip
          refine am_g 5 54 [some (.ref (75 + i)), some (.ref 23), some (.int (am_hat (σ 12) (ln i 1))), some (.int (nI o)), some (.int (am_aimF (σ 1) (σ 2) n 9 (am_kf σ false o)))] [.int 0, .int (am_aimF (σ 1) (σ 2) n 9 (am_kf σ false o)), .ref 15, .ref 23] (hG (am_up σ 13 (am_it (am_caS (am_kf σ false) (σ 1) (σ 2) (σ 3) (σ 12) (ln i) (am_hat (σ 12) (ln i 1)) n) (σ 13) o)) sr ln Lc μ) rfl ?_
          refine am_call (y := 28) (vs := [.ref 15, .int (am_aimF (σ 1) (σ 2) n 9 (am_kf σ false o)), .int 0]) (rest := [.ref 23]) (v := (some (.int (σ 3 (3 * (am_aimF (σ 1) (σ 2) n 9 (am_kf σ false o)).toNatClampNeg + 0))))) (h1 := (hG (am_up σ 13 (am_it (am_caS (am_kf σ false) (σ 1) (σ 2) (σ 3) (σ 12) (ln i) (am_hat (σ 12) (ln i 1)) n) (σ 13) o)) sr ln Lc μ)) rfl rfl rfl (sp_X3_nameOf_v (σ := (am_up σ 13 (am_it (am_caS (am_kf σ false) (σ 1) (σ 2) (σ 3) (σ 12) (ln i) (am_hat (σ 12) (ln i 1)) n) (σ 13) o))) (μ := μ) (d + 1) _ 0 ((am_aimF_pl hab how (a := n) (by omega) 9 _ (hok _ h1 o (by omega) e1)).resolve_left c2) (by decide)) ?_
          refine am_g 3 60 [some (.ref (75 + i)), some (.ref 23), some (.int (am_hat (σ 12) (ln i 1))), some (.int (nI o)), some (.int (am_aimF (σ 1) (σ 2) n 9 (am_kf σ false o)))] [.int (1 <<< ((nI o) &&& 31)), .int (σ 3 (3 * (am_aimF (σ 1) (σ 2) n 9 (am_kf σ false o)).toNatClampNeg + 0)), .ref 23] (hG (am_up σ 13 (am_it (am_caS (am_kf σ false) (σ 1) (σ 2) (σ 3) (σ 12) (ln i) (am_hat (σ 12) (ln i 1)) n) (σ 13) o)) sr ln Lc μ) rfl ?_
          refine am_call (y := 57) (vs := [.ref 23, .int (σ 3 (3 * (am_aimF (σ 1) (σ 2) n 9 (am_kf σ false o)).toNatClampNeg + 0)), .int (1 <<< ((nI o) &&& 31))]) (rest := []) (v := none) (h1 := (hG (am_up σ 13 (am_add (am_it (am_caS (am_kf σ false) (σ 1) (σ 2) (σ 3) (σ 12) (ln i) (am_hat (σ 12) (ln i 1)) n) (σ 13) o) (σ 3 (3 * (am_aimF (σ 1) (σ 2) n 9 (am_kf σ false o)).toNatClampNeg + 0)) (1 <<< ((nI o) &&& 31)))) sr ln Lc μ)) rfl rfl rfl (sp_X7_add_0 (σ := (am_up σ 13 (am_it (am_caS (am_kf σ false) (σ 1) (σ 2) (σ 3) (σ 12) (ln i) (am_hat (σ 12) (ln i 1)) n) (σ 13) o))) (μ := μ) (d + 2) _ _ (am_pl_mono (hro _ (am_roI ((am_aimF_pl hab how (a := n) (by omega) 9 _ (hok _ h1 o (by omega) e1)).resolve_left c2) (by decide))) (by decide))) ?_
          refine am_g 5 71 [some (.ref (75 + i)), some (.ref 23), some (.int (am_hat (σ 12) (ln i 1))), some (.int (nI o)), some (.int (am_aimF (σ 1) (σ 2) n 9 (am_kf σ false o)))] [.int 1, .int (am_aimF (σ 1) (σ 2) n 9 (am_kf σ false o)), .ref 15, .ref 23] (hG (am_up σ 13 (am_add (am_it (am_caS (am_kf σ false) (σ 1) (σ 2) (σ 3) (σ 12) (ln i) (am_hat (σ 12) (ln i 1)) n) (σ 13) o) (σ 3 (3 * (am_aimF (σ 1) (σ 2) n 9 (am_kf σ false o)).toNatClampNeg + 0)) (1 <<< ((nI o) &&& 31)))) sr ln Lc μ) rfl ?_
          refine am_call (y := 28) (vs := [.ref 15, .int (am_aimF (σ 1) (σ 2) n 9 (am_kf σ false o)), .int 1]) (rest := [.ref 23]) (v := (some (.int (σ 3 (3 * (am_aimF (σ 1) (σ 2) n 9 (am_kf σ false o)).toNatClampNeg + 1))))) (h1 := (hG (am_up σ 13 (am_add (am_it (am_caS (am_kf σ false) (σ 1) (σ 2) (σ 3) (σ 12) (ln i) (am_hat (σ 12) (ln i 1)) n) (σ 13) o) (σ 3 (3 * (am_aimF (σ 1) (σ 2) n 9 (am_kf σ false o)).toNatClampNeg + 0)) (1 <<< ((nI o) &&& 31)))) sr ln Lc μ)) rfl rfl rfl (sp_X3_nameOf_v (σ := (am_up σ 13 (am_add (am_it (am_caS (am_kf σ false) (σ 1) (σ 2) (σ 3) (σ 12) (ln i) (am_hat (σ 12) (ln i 1)) n) (σ 13) o) (σ 3 (3 * (am_aimF (σ 1) (σ 2) n 9 (am_kf σ false o)).toNatClampNeg + 0)) (1 <<< ((nI o) &&& 31))))) (μ := μ) (d + 1) _ 1 ((am_aimF_pl hab how (a := n) (by omega) 9 _ (hok _ h1 o (by omega) e1)).resolve_left c2) (by decide)) ?_
          refine am_g 2 76 [some (.ref (75 + i)), some (.ref 23), some (.int (am_hat (σ 12) (ln i 1))), some (.int (nI o)), some (.int (am_aimF (σ 1) (σ 2) n 9 (am_kf σ false o)))] [.ref (75 + i), .ref 23, .int (σ 3 (3 * (am_aimF (σ 1) (σ 2) n 9 (am_kf σ false o)).toNatClampNeg + 1)), .ref 23] (hG (am_up σ 13 (am_add (am_it (am_caS (am_kf σ false) (σ 1) (σ 2) (σ 3) (σ 12) (ln i) (am_hat (σ 12) (ln i 1)) n) (σ 13) o) (σ 3 (3 * (am_aimF (σ 1) (σ 2) n 9 (am_kf σ false o)).toNatClampNeg + 0)) (1 <<< ((nI o) &&& 31)))) sr ln Lc μ) rfl ?_
          refine am_lget7R (i := i) rfl (by omega) (by rw [hs]; rfl) (by rw [hs]; exact ⟨_, rfl⟩) ?_
          refine am_call (y := 56) (vs := [.ref 23, .int (ln i 7)]) (rest := [.int (σ 3 (3 * (am_aimF (σ 1) (σ 2) n 9 (am_kf σ false o)).toNatClampNeg + 1)), .ref 23]) (v := (some (.int (am_hat (σ 12) (ln i 7))))) (h1 := (hG (am_up σ 13 (am_add (am_it (am_caS (am_kf σ false) (σ 1) (σ 2) (σ 3) (σ 12) (ln i) (am_hat (σ 12) (ln i 1)) n) (σ 13) o) (σ 3 (3 * (am_aimF (σ 1) (σ 2) n 9 (am_kf σ false o)).toNatClampNeg + 0)) (1 <<< ((nI o) &&& 31)))) sr ln Lc μ)) rfl rfl rfl (sp_X7_heldAt_0 (σ := (am_up σ 13 (am_add (am_it (am_caS (am_kf σ false) (σ 1) (σ 2) (σ 3) (σ 12) (ln i) (am_hat (σ 12) (ln i 1)) n) (σ 13) o) (σ 3 (3 * (am_aimF (σ 1) (σ 2) n 9 (am_kf σ false o)).toNatClampNeg + 0)) (1 <<< ((nI o) &&& 31))))) (μ := μ) (d + 2) _ h7) ?_
          refine am_call (y := 57) (vs := [.ref 23, .int (σ 3 (3 * (am_aimF (σ 1) (σ 2) n 9 (am_kf σ false o)).toNatClampNeg + 1)), .int (am_hat (σ 12) (ln i 7))]) (rest := []) (v := none) (h1 := (hG (am_up σ 13 (am_add (am_add (am_it (am_caS (am_kf σ false) (σ 1) (σ 2) (σ 3) (σ 12) (ln i) (am_hat (σ 12) (ln i 1)) n) (σ 13) o) (σ 3 (3 * (am_aimF (σ 1) (σ 2) n 9 (am_kf σ false o)).toNatClampNeg + 0)) (1 <<< ((nI o) &&& 31))) (σ 3 (3 * (am_aimF (σ 1) (σ 2) n 9 (am_kf σ false o)).toNatClampNeg + 1)) (am_hat (σ 12) (ln i 7)))) sr ln Lc μ)) rfl rfl rfl (sp_X7_add_0 (σ := (am_up σ 13 (am_add (am_it (am_caS (am_kf σ false) (σ 1) (σ 2) (σ 3) (σ 12) (ln i) (am_hat (σ 12) (ln i 1)) n) (σ 13) o) (σ 3 (3 * (am_aimF (σ 1) (σ 2) n 9 (am_kf σ false o)).toNatClampNeg + 0)) (1 <<< ((nI o) &&& 31))))) (μ := μ) (d + 2) _ _ (am_pl_mono (hro _ (am_roI ((am_aimF_pl hab how (a := n) (by omega) 9 _ (hok _ h1 o (by omega) e1)).resolve_left c2) (by decide))) (by decide))) ?_
          refine am_g 2 87 [some (.ref (75 + i)), some (.ref 23), some (.int (am_hat (σ 12) (ln i 1))), some (.int (nI o)), some (.int (am_aimF (σ 1) (σ 2) n 9 (am_kf σ false o)))] [.ref (75 + i), .ref 23] (hG (am_up σ 13 (am_add (am_add (am_it (am_caS (am_kf σ false) (σ 1) (σ 2) (σ 3) (σ 12) (ln i) (am_hat (σ 12) (ln i 1)) n) (σ 13) o) (σ 3 (3 * (am_aimF (σ 1) (σ 2) n 9 (am_kf σ false o)).toNatClampNeg + 0)) (1 <<< ((nI o) &&& 31))) (σ 3 (3 * (am_aimF (σ 1) (σ 2) n 9 (am_kf σ false o)).toNatClampNeg + 1)) (am_hat (σ 12) (ln i 7)))) sr ln Lc μ) rfl ?_
          refine am_lgetR (i := i) (k := 0) rfl (by omega) (by decide) (by rw [hs]; exact ⟨_, rfl⟩) ?_
          refine am_g 5 98 [some (.ref (75 + i)), some (.ref 23), some (.int (am_hat (σ 12) (ln i 1))), some (.int (nI o)), some (.int (am_aimF (σ 1) (σ 2) n 9 (am_kf σ false o)))] [.int 2, .int (am_aimF (σ 1) (σ 2) n 9 (am_kf σ false o)), .ref 15, .ref 23, .int (ln i 0), .ref 23] (hG (am_up σ 13 (am_add (am_add (am_it (am_caS (am_kf σ false) (σ 1) (σ 2) (σ 3) (σ 12) (ln i) (am_hat (σ 12) (ln i 1)) n) (σ 13) o) (σ 3 (3 * (am_aimF (σ 1) (σ 2) n 9 (am_kf σ false o)).toNatClampNeg + 0)) (1 <<< ((nI o) &&& 31))) (σ 3 (3 * (am_aimF (σ 1) (σ 2) n 9 (am_kf σ false o)).toNatClampNeg + 1)) (am_hat (σ 12) (ln i 7)))) sr ln Lc μ) rfl ?_
          refine am_call (y := 28) (vs := [.ref 15, .int (am_aimF (σ 1) (σ 2) n 9 (am_kf σ false o)), .int 2]) (rest := [.ref 23, .int (ln i 0), .ref 23]) (v := (some (.int (σ 3 (3 * (am_aimF (σ 1) (σ 2) n 9 (am_kf σ false o)).toNatClampNeg + 2))))) (h1 := (hG (am_up σ 13 (am_add (am_add (am_it (am_caS (am_kf σ false) (σ 1) (σ 2) (σ 3) (σ 12) (ln i) (am_hat (σ 12) (ln i 1)) n) (σ 13) o) (σ 3 (3 * (am_aimF (σ 1) (σ 2) n 9 (am_kf σ false o)).toNatClampNeg + 0)) (1 <<< ((nI o) &&& 31))) (σ 3 (3 * (am_aimF (σ 1) (σ 2) n 9 (am_kf σ false o)).toNatClampNeg + 1)) (am_hat (σ 12) (ln i 7)))) sr ln Lc μ)) rfl rfl rfl (sp_X3_nameOf_v (σ := (am_up σ 13 (am_add (am_add (am_it (am_caS (am_kf σ false) (σ 1) (σ 2) (σ 3) (σ 12) (ln i) (am_hat (σ 12) (ln i 1)) n) (σ 13) o) (σ 3 (3 * (am_aimF (σ 1) (σ 2) n 9 (am_kf σ false o)).toNatClampNeg + 0)) (1 <<< ((nI o) &&& 31))) (σ 3 (3 * (am_aimF (σ 1) (σ 2) n 9 (am_kf σ false o)).toNatClampNeg + 1)) (am_hat (σ 12) (ln i 7))))) (μ := μ) (d + 1) _ 2 ((am_aimF_pl hab how (a := n) (by omega) 9 _ (hok _ h1 o (by omega) e1)).resolve_left c2) (by decide)) ?_
          refine am_call (y := 56) (vs := [.ref 23, .int (σ 3 (3 * (am_aimF (σ 1) (σ 2) n 9 (am_kf σ false o)).toNatClampNeg + 2))]) (rest := [.int (ln i 0), .ref 23]) (v := (some (.int (am_hat (σ 12) (σ 3 (3 * (am_aimF (σ 1) (σ 2) n 9 (am_kf σ false o)).toNatClampNeg + 2)))))) (h1 := (hG (am_up σ 13 (am_add (am_add (am_it (am_caS (am_kf σ false) (σ 1) (σ 2) (σ 3) (σ 12) (ln i) (am_hat (σ 12) (ln i 1)) n) (σ 13) o) (σ 3 (3 * (am_aimF (σ 1) (σ 2) n 9 (am_kf σ false o)).toNatClampNeg + 0)) (1 <<< ((nI o) &&& 31))) (σ 3 (3 * (am_aimF (σ 1) (σ 2) n 9 (am_kf σ false o)).toNatClampNeg + 1)) (am_hat (σ 12) (ln i 7)))) sr ln Lc μ)) rfl rfl rfl (sp_X7_heldAt_0 (σ := (am_up σ 13 (am_add (am_add (am_it (am_caS (am_kf σ false) (σ 1) (σ 2) (σ 3) (σ 12) (ln i) (am_hat (σ 12) (ln i 1)) n) (σ 13) o) (σ 3 (3 * (am_aimF (σ 1) (σ 2) n 9 (am_kf σ false o)).toNatClampNeg + 0)) (1 <<< ((nI o) &&& 31))) (σ 3 (3 * (am_aimF (σ 1) (σ 2) n 9 (am_kf σ false o)).toNatClampNeg + 1)) (am_hat (σ 12) (ln i 7))))) (μ := μ) (d + 2) _ (am_pl_mono (hro _ (am_roI ((am_aimF_pl hab how (a := n) (by omega) 9 _ (hok _ h1 o (by omega) e1)).resolve_left c2) (by decide))) (by decide))) ?_
          refine am_call (y := 57) (vs := [.ref 23, .int (ln i 0), .int (am_hat (σ 12) (σ 3 (3 * (am_aimF (σ 1) (σ 2) n 9 (am_kf σ false o)).toNatClampNeg + 2)))]) (rest := []) (v := none) (h1 := (hG (am_up σ 13 (am_add (am_add (am_add (am_it (am_caS (am_kf σ false) (σ 1) (σ 2) (σ 3) (σ 12) (ln i) (am_hat (σ 12) (ln i 1)) n) (σ 13) o) (σ 3 (3 * (am_aimF (σ 1) (σ 2) n 9 (am_kf σ false o)).toNatClampNeg + 0)) (1 <<< ((nI o) &&& 31))) (σ 3 (3 * (am_aimF (σ 1) (σ 2) n 9 (am_kf σ false o)).toNatClampNeg + 1)) (am_hat (σ 12) (ln i 7))) (ln i 0) (am_hat (σ 12) (σ 3 (3 * (am_aimF (σ 1) (σ 2) n 9 (am_kf σ false o)).toNatClampNeg + 2))))) sr ln Lc μ)) rfl rfl rfl (sp_X7_add_0 (σ := (am_up σ 13 (am_add (am_add (am_it (am_caS (am_kf σ false) (σ 1) (σ 2) (σ 3) (σ 12) (ln i) (am_hat (σ 12) (ln i 1)) n) (σ 13) o) (σ 3 (3 * (am_aimF (σ 1) (σ 2) n 9 (am_kf σ false o)).toNatClampNeg + 0)) (1 <<< ((nI o) &&& 31))) (σ 3 (3 * (am_aimF (σ 1) (σ 2) n 9 (am_kf σ false o)).toNatClampNeg + 1)) (am_hat (σ 12) (ln i 7))))) (μ := μ) (d + 2) _ _ h0) ?_
          refine am_g 2 11 [some (.ref (75 + i)), some (.ref 23), some (.int (am_hat (σ 12) (ln i 1))), some (.int ((nI o) + 1)), some (.int (am_aimF (σ 1) (σ 2) n 9 (am_kf σ false o)))] [] (hG (am_up σ 13 (am_add (am_add (am_add (am_it (am_caS (am_kf σ false) (σ 1) (σ 2) (σ 3) (σ 12) (ln i) (am_hat (σ 12) (ln i 1)) n) (σ 13) o) (σ 3 (3 * (am_aimF (σ 1) (σ 2) n 9 (am_kf σ false o)).toNatClampNeg + 0)) (1 <<< ((nI o) &&& 31))) (σ 3 (3 * (am_aimF (σ 1) (σ 2) n 9 (am_kf σ false o)).toNatClampNeg + 1)) (am_hat (σ 12) (ln i 7))) (ln i 0) (am_hat (σ 12) (σ 3 (3 * (am_aimF (σ 1) (σ 2) n 9 (am_kf σ false o)).toNatClampNeg + 2))))) sr ln Lc μ) rfl ?_
          rw [nI_up, ← (show am_it (am_caS (am_kf σ false) (σ 1) (σ 2) (σ 3) (σ 12) (ln i) (am_hat (σ 12) (ln i 1)) n) (σ 13) (o + 1) = (am_add (am_add (am_add (am_it (am_caS (am_kf σ false) (σ 1) (σ 2) (σ 3) (σ 12) (ln i) (am_hat (σ 12) (ln i 1)) n) (σ 13) o) (σ 3 (3 * (am_aimF (σ 1) (σ 2) n 9 (am_kf σ false o)).toNatClampNeg + 0)) (1 <<< ((nI o) &&& 31))) (σ 3 (3 * (am_aimF (σ 1) (σ 2) n 9 (am_kf σ false o)).toNatClampNeg + 1)) (am_hat (σ 12) (ln i 7))) (ln i 0) (am_hat (σ 12) (σ 3 (3 * (am_aimF (σ 1) (σ 2) n 9 (am_kf σ false o)).toNatClampNeg + 2)))) from (by rw [am_itS]; unfold am_caS am_clS; rw [e1, cond_true, if_neg c2]; try rfl))]
          exact ih (o + 1) _ (by omega)
  exact lp 16 0 none (by omega)
theorem sp_allow_0 (d i : Nat) (hi : i < Lc) (hs : sr i < 6) (hw : am_wl (sr i) (ln i)) (hab : am_wab (σ 1)) (how : ∀ p, p < 24 → am_pl 6 (σ 2 p)) (hro : ∀ p, p < 18 → am_pl 20 (σ 3 p)) (hok : am_okW (am_kf σ false) (σ 12)) : am_X xs LL (d + 4) ([18, 10, 49, 85, 5, 43].getD (sr i) 0) [.ref (75 + i), .ref 23] (hG σ sr ln Lc μ) none (hG (am_up σ 13 (am_alw (am_kf σ false) (σ 1) (σ 2) (σ 3) false (sr i) (ln i) (σ 12) (σ 13))) sr ln Lc μ) := by
  obtain ⟨⟨a, ha, h0⟩, h1, -, -, hn3, -, -, h7, -, -⟩ := hw
  have h0 : am_pl 68 (ln i 0) := Or.inr ⟨a, by omega, h0⟩
  have h1 : am_pl 68 (ln i 1) := am_pl_mono h1 (by decide)
  generalize hq : sr i = s at hs hn3 h7 ⊢
  match s, hs with
  | 0, _ => exact sp_X2_allow_0 (d + 2) i hi hq h0 h1
  | 1, _ => exact sp_X1_allow_0 d i hi hq h0 h1 hab hok
  | 2, _ =>
    obtain ⟨n, hn, e⟩ := hn3 (by decide) (by decide)
    have k := sp_X6_allow_0 (σ := σ) (μ := μ) (xs := xs) (LL := LL) (d + 1) i hi hq e hn h0 h1
    unfold am_alw
    rw [e, nI_clamp (by omega)]
    exact k
  | 3, _ =>
    obtain ⟨n, hn, e⟩ := hn3 (by decide) (by decide)
    have k := sp_X10_allow_0 (σ := σ) (μ := μ) (xs := xs) (LL := LL) (d + 1) i hi hq e hn h0 h1
    unfold am_alw
    rw [e, nI_clamp (by omega)]
    exact k
  | 4, _ =>
    obtain ⟨n, hn, e⟩ := hn3 (by decide) (by decide)
    obtain ⟨z, hz, e7⟩ := h7 rfl
    have k := sp_X0_allow_0 (σ := σ) (μ := μ) (xs := xs) (LL := LL) d i hi hq e hn h0 h1 (Or.inr ⟨z, by omega, e7⟩) hab how hro hok
    unfold am_alw
    rw [e, nI_clamp (by omega)]
    exact k
  | 5, _ => exact sp_X5_allow_0 (d + 2) i hi hq h0
theorem sp_X7_aimOfPoint_v1 (d : Nat) (hab : am_wab (σ 1)) (p a : Nat) (v : Int32) (hv : v = nI a) (hp : p < 16) (ha : a < 3) (hk : am_pl 8 (am_kf σ true p)) : am_X xs LL (d + 3) 60 [.ref 27, .int (nI p), .int v] (hG σ sr ln Lc μ) (some (.int (am_aimF (σ 1) (σ 2) a 9 (am_kf σ true p)))) (hG σ sr ln Lc μ) := by
  subst hv
  exact sp_X7_aimOfPoint_1 d hab p a hp ha hk
theorem sp_X2_allow_1 (d : Nat) (i : Nat) (hi : i < Lc) (hs : sr i = 0) (h0 : am_pl 68 (ln i 0)) (h1 : am_pl 68 (ln i 1)) : am_X xs LL (d + 2) 18 [.ref (75 + i), .ref 27] (hG σ sr ln Lc μ) none (hG (am_up σ 23 (am_add (σ 23) (ln i 0) (am_hat (σ 22) (ln i 1)))) sr ln Lc μ) := by
  refine am_XR (d := d + 1) (C := cd_X2_allow) (L := [some (.ref (75 + i)), some (.ref 27)]) rfl rfl rfl rfl ?_
  refine am_g 2 2 [some (.ref (75 + i)), some (.ref 27)] [.ref (75 + i), .ref 27] (hG σ sr ln Lc μ) rfl ?_
  refine am_lgetR (i := i) (k := 0) rfl (by omega) (by decide) (by rw [hs]; exact ⟨_, rfl⟩) ?_
  refine am_g 2 7 [some (.ref (75 + i)), some (.ref 27)] [.ref (75 + i), .ref 27, .int (ln i 0), .ref 27] (hG σ sr ln Lc μ) rfl ?_
  refine am_lgetR (i := i) (k := 1) rfl (by omega) (by decide) (by rw [hs]; exact ⟨_, rfl⟩) ?_
  refine am_call (y := 56) (vs := [.ref 27, .int (ln i 1)]) (rest := [.int (ln i 0), .ref 27]) (v := (some (.int (am_hat (σ 22) (ln i 1))))) (h1 := (hG σ sr ln Lc μ)) rfl rfl rfl (sp_X7_heldAt_1 (σ := σ) (μ := μ) d _ h1) ?_
  refine am_call (y := 57) (vs := [.ref 27, .int (ln i 0), .int (am_hat (σ 22) (ln i 1))]) (rest := []) (v := none) (h1 := (hG (am_up σ 23 (am_add (σ 23) (ln i 0) (am_hat (σ 22) (ln i 1)))) sr ln Lc μ)) rfl rfl rfl (sp_X7_add_1 (σ := σ) (μ := μ) d _ _ h0) ?_
  exact am_ret2 rfl rfl rfl rfl rfl
theorem sp_X1_allow_1 (d : Nat) (i : Nat) (hi : i < Lc) (hs : sr i = 1) (h0 : am_pl 68 (ln i 0)) (h1 : am_pl 68 (ln i 1)) (hab : am_wab (σ 1)) (hok : am_okW (am_kf σ true) (σ 22)) : am_X xs LL (d + 4) 10 [.ref (75 + i), .ref 27] (hG σ sr ln Lc μ) none (hG (am_up σ 23 (am_add (σ 23) (ln i 0) (am_orF (am_okF (σ 1) (am_kf σ true) (am_hat (σ 22) (ln i 1)) (ln i 2)) 16))) sr ln Lc μ) := by
  refine am_XR (d := d + 3) (C := cd_X1_allow) (L := [some (.ref (75 + i)), some (.ref 27)]) rfl rfl rfl rfl ?_
  refine am_g 2 2 [some (.ref (75 + i)), some (.ref 27)] [.ref (75 + i), .ref 27] (hG σ sr ln Lc μ) rfl ?_
  refine am_lgetR (i := i) (k := 0) rfl (by omega) (by decide) (by rw [hs]; exact ⟨_, rfl⟩) ?_
  refine am_g 3 8 [some (.ref (75 + i)), some (.ref 27)] [.ref (75 + i), .ref 27, .ref 27, .int (ln i 0), .ref 27] (hG σ sr ln Lc μ) rfl ?_
  refine am_lgetR (i := i) (k := 1) rfl (by omega) (by decide) (by rw [hs]; exact ⟨_, rfl⟩) ?_
  refine am_call (y := 56) (vs := [.ref 27, .int (ln i 1)]) (rest := [.ref 27, .int (ln i 0), .ref 27]) (v := (some (.int (am_hat (σ 22) (ln i 1))))) (h1 := (hG σ sr ln Lc μ)) rfl rfl rfl (sp_X7_heldAt_1 (σ := σ) (μ := μ) (d + 2) _ h1) ?_
  refine am_g 1 15 [some (.ref (75 + i)), some (.ref 27)] [.ref (75 + i), .int (am_hat (σ 22) (ln i 1)), .ref 27, .int (ln i 0), .ref 27] (hG σ sr ln Lc μ) rfl ?_
  refine am_lgetR (i := i) (k := 2) rfl (by omega) (by decide) (by rw [hs]; exact ⟨_, rfl⟩) ?_
  refine am_call (y := 61) (vs := [.ref 27, .int (am_hat (σ 22) (ln i 1)), .int (ln i 2)]) (rest := [.int (ln i 0), .ref 27]) (v := (some (.int (am_orF (am_okF (σ 1) (am_kf σ true) (am_hat (σ 22) (ln i 1)) (ln i 2)) 16)))) (h1 := (hG σ sr ln Lc μ)) rfl rfl rfl (sp_X7_partUnder_1 (σ := σ) (μ := μ) d hab _ _ (hok _ h1)) ?_
  refine am_call (y := 57) (vs := [.ref 27, .int (ln i 0), .int (am_orF (am_okF (σ 1) (am_kf σ true) (am_hat (σ 22) (ln i 1)) (ln i 2)) 16)]) (rest := []) (v := none) (h1 := (hG (am_up σ 23 (am_add (σ 23) (ln i 0) (am_orF (am_okF (σ 1) (am_kf σ true) (am_hat (σ 22) (ln i 1)) (ln i 2)) 16))) sr ln Lc μ)) rfl rfl rfl (sp_X7_add_1 (σ := σ) (μ := μ) (d + 2) _ _ h0) ?_
  exact am_ret2 rfl rfl rfl rfl rfl
theorem sp_X5_allow_1 (d : Nat) (i : Nat) (hi : i < Lc) (hs : sr i = 5) (h0 : am_pl 68 (ln i 0)) : am_X xs LL (d + 2) 43 [.ref (75 + i), .ref 27] (hG σ sr ln Lc μ) none (hG (am_up σ 23 (am_add (σ 23) (ln i 0) (1 <<< ((ln i 2) &&& 31)))) sr ln Lc μ) := by
  refine am_XR (d := d + 1) (C := cd_X5_allow) (L := [some (.ref (75 + i)), some (.ref 27)]) rfl rfl rfl rfl ?_
  refine am_g 2 2 [some (.ref (75 + i)), some (.ref 27)] [.ref (75 + i), .ref 27] (hG σ sr ln Lc μ) rfl ?_
  refine am_lgetR (i := i) (k := 0) rfl (by omega) (by decide) (by rw [hs]; exact ⟨_, rfl⟩) ?_
  refine am_g 5 14 [some (.ref (75 + i)), some (.ref 27)] [.ref (75 + i), .int 1, .int (ln i 0), .ref 27] (hG σ sr ln Lc μ) rfl ?_
  refine am_lgetR (i := i) (k := 2) rfl (by omega) (by decide) (by rw [hs]; exact ⟨_, rfl⟩) ?_
  refine am_g 2 25 [some (.ref (75 + i)), some (.ref 27)] [.int (1 <<< ((ln i 2) &&& 31)), .int (ln i 0), .ref 27] (hG σ sr ln Lc μ) rfl ?_
  refine am_call (y := 57) (vs := [.ref 27, .int (ln i 0), .int (1 <<< ((ln i 2) &&& 31))]) (rest := []) (v := none) (h1 := (hG (am_up σ 23 (am_add (σ 23) (ln i 0) (1 <<< ((ln i 2) &&& 31)))) sr ln Lc μ)) rfl rfl rfl (sp_X7_add_1 (σ := σ) (μ := μ) d _ _ h0) ?_
  exact am_ret2 rfl rfl rfl rfl rfl
theorem sp_X6_allow_1 (d : Nat) (i : Nat) (hi : i < Lc) (hs : sr i = 2) {n : Nat} (hn : ln i 2 = nI n) (hn3 : n < 3) (h0 : am_pl 68 (ln i 0)) (h1 : am_pl 68 (ln i 1)) : am_X xs LL (d + 3) 49 [.ref (75 + i), .ref 27] (hG σ sr ln Lc μ) none (hG (am_up σ 23 (am_it (am_rdS (σ 22) (am_hat (σ 22) (ln i 1)) (ln i 0) n) (σ 23) 16)) sr ln Lc μ) := by
  refine am_XR (d := d + 2) (C := cd_X6_allow) (L := [some (.ref (75 + i)), some (.ref 27), none, none]) rfl rfl rfl rfl ?_
  refine am_g 2 2 [some (.ref (75 + i)), some (.ref 27), none, none] [.ref (75 + i), .ref 27] (hG σ sr ln Lc μ) rfl ?_
  refine am_lgetR (i := i) (k := 1) rfl (by omega) (by decide) (by rw [hs]; exact ⟨_, rfl⟩) ?_
  refine am_call (y := 56) (vs := [.ref 27, .int (ln i 1)]) (rest := []) (v := (some (.int (am_hat (σ 22) (ln i 1))))) (h1 := (hG σ sr ln Lc μ)) rfl rfl rfl (sp_X7_heldAt_1 (σ := σ) (μ := μ) (d + 1) _ h1) ?_
  refine am_g 3 11 [some (.ref (75 + i)), some (.ref 27), some (.int (am_hat (σ 22) (ln i 1))), some (.int 0)] [] (hG σ sr ln Lc μ) rfl ?_
  have lp : ∀ (r o : Nat), o + r = 16 → am_R xs LL cd_X6_allow (am_X xs LL (d + 2)) 11 [some (.ref (75 + i)), some (.ref 27), some (.int (am_hat (σ 22) (ln i 1))), some (.int (nI o))] [] (hG (am_up σ 23 (am_it (am_rdS (σ 22) (am_hat (σ 22) (ln i 1)) (ln i 0) n) (σ 23) o)) sr ln Lc μ) none (hG (am_up σ 23 (am_it (am_rdS (σ 22) (am_hat (σ 22) (ln i 1)) (ln i 0) n) (σ 23) 16)) sr ln Lc μ) := by
    intro r
    induction r with
    | zero =>
      intro o  hi
      have hi2 : o = 16 := by omega
      rw [hi2]
      refine am_g 3 (if 16 ≤ (nI 16) then 51 else 17) [some (.ref (75 + i)), some (.ref 27), some (.int (am_hat (σ 22) (ln i 1))), some (.int (nI 16))] [] (hG (am_up σ 23 (am_it (am_rdS (σ 22) (am_hat (σ 22) (ln i 1)) (ln i 0) n) (σ 23) 16)) sr ln Lc μ) rfl ?_
      rw [if_pos (show 16 ≤ (nI 16) from (am_dle (a := 16) (b := 16) (rfl) (rfl) (by omega) (by omega) (by omega)))]
      exact am_ret2 rfl rfl rfl rfl rfl
    | succ r ih =>
      intro o  hi
      have hi2 : o < 16 := by omega
      refine am_g 3 (if 16 ≤ (nI o) then 51 else 17) [some (.ref (75 + i)), some (.ref 27), some (.int (am_hat (σ 22) (ln i 1))), some (.int (nI o))] [] (hG (am_up σ 23 (am_it (am_rdS (σ 22) (am_hat (σ 22) (ln i 1)) (ln i 0) n) (σ 23) o)) sr ln Lc μ) rfl ?_
      rw [if_neg (show ¬ 16 ≤ (nI o) from (am_dnle (a := 16) (b := o) (rfl) (rfl) (by omega) (by omega) (by omega)))]
      refine am_g 2 19 [some (.ref (75 + i)), some (.ref 27), some (.int (am_hat (σ 22) (ln i 1))), some (.int (nI o))] [.int (nI o), .int (am_hat (σ 22) (ln i 1))] (hG (am_up σ 23 (am_it (am_rdS (σ 22) (am_hat (σ 22) (ln i 1)) (ln i 0) n) (σ 23) o)) sr ln Lc μ) rfl ?_
      cases e1 : am_hb (am_hat (σ 22) (ln i 1)) o with
      | false =>
        refine am_call (y := 126) (vs := [.int (am_hat (σ 22) (ln i 1)), .int (nI o)]) (rest := []) (v := (some (.int 0))) (h1 := (hG (am_up σ 23 (am_it (am_rdS (σ 22) (am_hat (σ 22) (ln i 1)) (ln i 0) n) (σ 23) o)) sr ln Lc μ)) rfl rfl rfl (sp_X11_hasBit (d + 1) _ _ _ e1) ?_
        refine am_g 3 11 [some (.ref (75 + i)), some (.ref 27), some (.int (am_hat (σ 22) (ln i 1))), some (.int ((nI o) + 1))] [] (hG (am_up σ 23 (am_it (am_rdS (σ 22) (am_hat (σ 22) (ln i 1)) (ln i 0) n) (σ 23) o)) sr ln Lc μ) rfl ?_
        rw [nI_up, ← (show am_it (am_rdS (σ 22) (am_hat (σ 22) (ln i 1)) (ln i 0) n) (σ 23) (o + 1) = (am_it (am_rdS (σ 22) (am_hat (σ 22) (ln i 1)) (ln i 0) n) (σ 23) o) from (by rw [am_itS]; unfold am_rdS; rw [e1]; rfl))]
        exact ih (o + 1) (by omega)
      | true =>
        refine am_call (y := 126) (vs := [.int (am_hat (σ 22) (ln i 1)), .int (nI o)]) (rest := []) (v := (some (.int 1))) (h1 := (hG (am_up σ 23 (am_it (am_rdS (σ 22) (am_hat (σ 22) (ln i 1)) (ln i 0) n) (σ 23) o)) sr ln Lc μ)) rfl rfl rfl (sp_X11_hasBit (d + 1) _ _ _ e1) ?_
        refine am_g 3 27 [some (.ref (75 + i)), some (.ref 27), some (.int (am_hat (σ 22) (ln i 1))), some (.int (nI o))] [.ref (75 + i), .ref 27] (hG (am_up σ 23 (am_it (am_rdS (σ 22) (am_hat (σ 22) (ln i 1)) (ln i 0) n) (σ 23) o)) sr ln Lc μ) rfl ?_
        refine am_lgetR (i := i) (k := 0) rfl (by omega) (by decide) (by rw [hs]; exact ⟨_, rfl⟩) ?_
        refine am_g 3 33 [some (.ref (75 + i)), some (.ref 27), some (.int (am_hat (σ 22) (ln i 1))), some (.int (nI o))] [.ref (75 + i), .int (nI o), .ref 27, .int (ln i 0), .ref 27] (hG (am_up σ 23 (am_it (am_rdS (σ 22) (am_hat (σ 22) (ln i 1)) (ln i 0) n) (σ 23) o)) sr ln Lc μ) rfl ?_
        refine am_lgetR (i := i) (k := 2) rfl (by omega) (by decide) (by rw [hs]; exact ⟨_, rfl⟩) ?_
        refine am_call (y := 127) (vs := [.int (nI o), .int (ln i 2)]) (rest := [.ref 27, .int (ln i 0), .ref 27]) (v := (some (.int (nI (20 + 3 * o + n))))) (h1 := (hG (am_up σ 23 (am_it (am_rdS (σ 22) (am_hat (σ 22) (ln i 1)) (ln i 0) n) (σ 23) o)) sr ln Lc μ)) rfl rfl rfl (sp_X11_fieldPlace_v d o n _ _ (rfl) (hn) (by omega) (by omega) _) ?_
        refine am_call (y := 56) (vs := [.ref 27, .int (nI (20 + 3 * o + n))]) (rest := [.int (ln i 0), .ref 27]) (v := (some (.int (am_hat (σ 22) (nI (20 + 3 * o + n)))))) (h1 := (hG (am_up σ 23 (am_it (am_rdS (σ 22) (am_hat (σ 22) (ln i 1)) (ln i 0) n) (σ 23) o)) sr ln Lc μ)) rfl rfl rfl (sp_X7_heldAt_1 (σ := (am_up σ 23 (am_it (am_rdS (σ 22) (am_hat (σ 22) (ln i 1)) (ln i 0) n) (σ 23) o))) (μ := μ) (d + 1) _ (am_pl_nI (by omega))) ?_
        refine am_call (y := 57) (vs := [.ref 27, .int (ln i 0), .int (am_hat (σ 22) (nI (20 + 3 * o + n)))]) (rest := []) (v := none) (h1 := (hG (am_up σ 23 (am_add (am_it (am_rdS (σ 22) (am_hat (σ 22) (ln i 1)) (ln i 0) n) (σ 23) o) (ln i 0) (am_hat (σ 22) (nI (20 + 3 * o + n))))) sr ln Lc μ)) rfl rfl rfl (sp_X7_add_1 (σ := (am_up σ 23 (am_it (am_rdS (σ 22) (am_hat (σ 22) (ln i 1)) (ln i 0) n) (σ 23) o))) (μ := μ) (d + 1) _ _ h0) ?_
        refine am_g 2 11 [some (.ref (75 + i)), some (.ref 27), some (.int (am_hat (σ 22) (ln i 1))), some (.int ((nI o) + 1))] [] (hG (am_up σ 23 (am_add (am_it (am_rdS (σ 22) (am_hat (σ 22) (ln i 1)) (ln i 0) n) (σ 23) o) (ln i 0) (am_hat (σ 22) (nI (20 + 3 * o + n))))) sr ln Lc μ) rfl ?_
        rw [nI_up, ← (show am_it (am_rdS (σ 22) (am_hat (σ 22) (ln i 1)) (ln i 0) n) (σ 23) (o + 1) = (am_add (am_it (am_rdS (σ 22) (am_hat (σ 22) (ln i 1)) (ln i 0) n) (σ 23) o) (ln i 0) (am_hat (σ 22) (nI (20 + 3 * o + n)))) from (by rw [am_itS]; unfold am_rdS; rw [e1]; rfl))]
        exact ih (o + 1) (by omega)
  exact lp 16 0 (by omega)
theorem sp_X10_allow_1 (d : Nat) (i : Nat) (hi : i < Lc) (hs : sr i = 3) {n : Nat} (hn : ln i 2 = nI n) (hn3 : n < 3) (h0 : am_pl 68 (ln i 0)) (h1 : am_pl 68 (ln i 1)) : am_X xs LL (d + 3) 85 [.ref (75 + i), .ref 27] (hG σ sr ln Lc μ) none (hG (am_up σ 23 (am_it (am_wrS (am_hat (σ 22) (ln i 0)) (am_hat (σ 22) (ln i 1)) n) (σ 23) 16)) sr ln Lc μ) := by
  refine am_XR (d := d + 2) (C := cd_X10_allow) (L := [some (.ref (75 + i)), some (.ref 27), none, none]) rfl rfl rfl rfl ?_
  refine am_g 2 2 [some (.ref (75 + i)), some (.ref 27), none, none] [.ref (75 + i), .ref 27] (hG σ sr ln Lc μ) rfl ?_
  refine am_lgetR (i := i) (k := 0) rfl (by omega) (by decide) (by rw [hs]; exact ⟨_, rfl⟩) ?_
  refine am_call (y := 56) (vs := [.ref 27, .int (ln i 0)]) (rest := []) (v := (some (.int (am_hat (σ 22) (ln i 0))))) (h1 := (hG σ sr ln Lc μ)) rfl rfl rfl (sp_X7_heldAt_1 (σ := σ) (μ := μ) (d + 1) _ h0) ?_
  refine am_g 3 11 [some (.ref (75 + i)), some (.ref 27), some (.int (am_hat (σ 22) (ln i 0))), some (.int 0)] [] (hG σ sr ln Lc μ) rfl ?_
  have lp : ∀ (r o : Nat), o + r = 16 → am_R xs LL cd_X10_allow (am_X xs LL (d + 2)) 11 [some (.ref (75 + i)), some (.ref 27), some (.int (am_hat (σ 22) (ln i 0))), some (.int (nI o))] [] (hG (am_up σ 23 (am_it (am_wrS (am_hat (σ 22) (ln i 0)) (am_hat (σ 22) (ln i 1)) n) (σ 23) o)) sr ln Lc μ) none (hG (am_up σ 23 (am_it (am_wrS (am_hat (σ 22) (ln i 0)) (am_hat (σ 22) (ln i 1)) n) (σ 23) 16)) sr ln Lc μ) := by
    intro r
    induction r with
    | zero =>
      intro o  hi
      have hi2 : o = 16 := by omega
      rw [hi2]
      refine am_g 3 (if 16 ≤ (nI 16) then 51 else 17) [some (.ref (75 + i)), some (.ref 27), some (.int (am_hat (σ 22) (ln i 0))), some (.int (nI 16))] [] (hG (am_up σ 23 (am_it (am_wrS (am_hat (σ 22) (ln i 0)) (am_hat (σ 22) (ln i 1)) n) (σ 23) 16)) sr ln Lc μ) rfl ?_
      rw [if_pos (show 16 ≤ (nI 16) from (am_dle (a := 16) (b := 16) (rfl) (rfl) (by omega) (by omega) (by omega)))]
      exact am_ret2 rfl rfl rfl rfl rfl
    | succ r ih =>
      intro o  hi
      have hi2 : o < 16 := by omega
      refine am_g 3 (if 16 ≤ (nI o) then 51 else 17) [some (.ref (75 + i)), some (.ref 27), some (.int (am_hat (σ 22) (ln i 0))), some (.int (nI o))] [] (hG (am_up σ 23 (am_it (am_wrS (am_hat (σ 22) (ln i 0)) (am_hat (σ 22) (ln i 1)) n) (σ 23) o)) sr ln Lc μ) rfl ?_
      rw [if_neg (show ¬ 16 ≤ (nI o) from (am_dnle (a := 16) (b := o) (rfl) (rfl) (by omega) (by omega) (by omega)))]
      refine am_g 2 19 [some (.ref (75 + i)), some (.ref 27), some (.int (am_hat (σ 22) (ln i 0))), some (.int (nI o))] [.int (nI o), .int (am_hat (σ 22) (ln i 0))] (hG (am_up σ 23 (am_it (am_wrS (am_hat (σ 22) (ln i 0)) (am_hat (σ 22) (ln i 1)) n) (σ 23) o)) sr ln Lc μ) rfl ?_
      cases e1 : am_hb (am_hat (σ 22) (ln i 0)) o with
      | false =>
        refine am_call (y := 126) (vs := [.int (am_hat (σ 22) (ln i 0)), .int (nI o)]) (rest := []) (v := (some (.int 0))) (h1 := (hG (am_up σ 23 (am_it (am_wrS (am_hat (σ 22) (ln i 0)) (am_hat (σ 22) (ln i 1)) n) (σ 23) o)) sr ln Lc μ)) rfl rfl rfl (sp_X11_hasBit (d + 1) _ _ _ e1) ?_
        refine am_g 3 11 [some (.ref (75 + i)), some (.ref 27), some (.int (am_hat (σ 22) (ln i 0))), some (.int ((nI o) + 1))] [] (hG (am_up σ 23 (am_it (am_wrS (am_hat (σ 22) (ln i 0)) (am_hat (σ 22) (ln i 1)) n) (σ 23) o)) sr ln Lc μ) rfl ?_
        rw [nI_up, ← (show am_it (am_wrS (am_hat (σ 22) (ln i 0)) (am_hat (σ 22) (ln i 1)) n) (σ 23) (o + 1) = (am_it (am_wrS (am_hat (σ 22) (ln i 0)) (am_hat (σ 22) (ln i 1)) n) (σ 23) o) from (by rw [am_itS]; unfold am_wrS; rw [e1]; rfl))]
        exact ih (o + 1) (by omega)
      | true =>
        refine am_call (y := 126) (vs := [.int (am_hat (σ 22) (ln i 0)), .int (nI o)]) (rest := []) (v := (some (.int 1))) (h1 := (hG (am_up σ 23 (am_it (am_wrS (am_hat (σ 22) (ln i 0)) (am_hat (σ 22) (ln i 1)) n) (σ 23) o)) sr ln Lc μ)) rfl rfl rfl (sp_X11_hasBit (d + 1) _ _ _ e1) ?_
        refine am_g 4 28 [some (.ref (75 + i)), some (.ref 27), some (.int (am_hat (σ 22) (ln i 0))), some (.int (nI o))] [.ref (75 + i), .int (nI o), .ref 27] (hG (am_up σ 23 (am_it (am_wrS (am_hat (σ 22) (ln i 0)) (am_hat (σ 22) (ln i 1)) n) (σ 23) o)) sr ln Lc μ) rfl ?_
        refine am_lgetR (i := i) (k := 2) rfl (by omega) (by decide) (by rw [hs]; exact ⟨_, rfl⟩) ?_
        refine am_call (y := 127) (vs := [.int (nI o), .int (ln i 2)]) (rest := [.ref 27]) (v := (some (.int (nI (20 + 3 * o + n))))) (h1 := (hG (am_up σ 23 (am_it (am_wrS (am_hat (σ 22) (ln i 0)) (am_hat (σ 22) (ln i 1)) n) (σ 23) o)) sr ln Lc μ)) rfl rfl rfl (sp_X11_fieldPlace_v d o n _ _ (rfl) (hn) (by omega) (by omega) _) ?_
        refine am_g 2 36 [some (.ref (75 + i)), some (.ref 27), some (.int (am_hat (σ 22) (ln i 0))), some (.int (nI o))] [.ref (75 + i), .ref 27, .int (nI (20 + 3 * o + n)), .ref 27] (hG (am_up σ 23 (am_it (am_wrS (am_hat (σ 22) (ln i 0)) (am_hat (σ 22) (ln i 1)) n) (σ 23) o)) sr ln Lc μ) rfl ?_
        refine am_lgetR (i := i) (k := 1) rfl (by omega) (by decide) (by rw [hs]; exact ⟨_, rfl⟩) ?_
        refine am_call (y := 56) (vs := [.ref 27, .int (ln i 1)]) (rest := [.int (nI (20 + 3 * o + n)), .ref 27]) (v := (some (.int (am_hat (σ 22) (ln i 1))))) (h1 := (hG (am_up σ 23 (am_it (am_wrS (am_hat (σ 22) (ln i 0)) (am_hat (σ 22) (ln i 1)) n) (σ 23) o)) sr ln Lc μ)) rfl rfl rfl (sp_X7_heldAt_1 (σ := (am_up σ 23 (am_it (am_wrS (am_hat (σ 22) (ln i 0)) (am_hat (σ 22) (ln i 1)) n) (σ 23) o))) (μ := μ) (d + 1) _ h1) ?_
        refine am_call (y := 57) (vs := [.ref 27, .int (nI (20 + 3 * o + n)), .int (am_hat (σ 22) (ln i 1))]) (rest := []) (v := none) (h1 := (hG (am_up σ 23 (am_add (am_it (am_wrS (am_hat (σ 22) (ln i 0)) (am_hat (σ 22) (ln i 1)) n) (σ 23) o) (nI (20 + 3 * o + n)) (am_hat (σ 22) (ln i 1)))) sr ln Lc μ)) rfl rfl rfl (sp_X7_add_1 (σ := (am_up σ 23 (am_it (am_wrS (am_hat (σ 22) (ln i 0)) (am_hat (σ 22) (ln i 1)) n) (σ 23) o))) (μ := μ) (d + 1) _ _ (am_pl_nI (by omega))) ?_
        refine am_g 2 11 [some (.ref (75 + i)), some (.ref 27), some (.int (am_hat (σ 22) (ln i 0))), some (.int ((nI o) + 1))] [] (hG (am_up σ 23 (am_add (am_it (am_wrS (am_hat (σ 22) (ln i 0)) (am_hat (σ 22) (ln i 1)) n) (σ 23) o) (nI (20 + 3 * o + n)) (am_hat (σ 22) (ln i 1)))) sr ln Lc μ) rfl ?_
        rw [nI_up, ← (show am_it (am_wrS (am_hat (σ 22) (ln i 0)) (am_hat (σ 22) (ln i 1)) n) (σ 23) (o + 1) = (am_add (am_it (am_wrS (am_hat (σ 22) (ln i 0)) (am_hat (σ 22) (ln i 1)) n) (σ 23) o) (nI (20 + 3 * o + n)) (am_hat (σ 22) (ln i 1))) from (by rw [am_itS]; unfold am_wrS; rw [e1]; rfl))]
        exact ih (o + 1) (by omega)
  exact lp 16 0 (by omega)
theorem sp_X0_allow_1 (d : Nat) (i : Nat) (hi : i < Lc) (hs : sr i = 4) {n : Nat} (hn : ln i 2 = nI n) (hn3 : n < 3) (h0 : am_pl 68 (ln i 0)) (h1 : am_pl 68 (ln i 1)) (h7 : am_pl 68 (ln i 7)) (hab : am_wab (σ 1)) (how : ∀ p, p < 24 → am_pl 6 (σ 2 p)) (hro : ∀ p, p < 18 → am_pl 20 (σ 3 p)) (hok : am_okW (am_kf σ true) (σ 22)) : am_X xs LL (d + 4) 5 [.ref (75 + i), .ref 27] (hG σ sr ln Lc μ) none (hG (am_up σ 23 (am_it (am_caS (am_kf σ true) (σ 1) (σ 2) (σ 3) (σ 22) (ln i) (am_hat (σ 22) (ln i 1)) n) (σ 23) 16)) sr ln Lc μ) := by
  refine am_XR (d := d + 3) (C := cd_X0_allow) (L := [some (.ref (75 + i)), some (.ref 27), none, none, none]) rfl rfl rfl rfl ?_
  refine am_g 2 2 [some (.ref (75 + i)), some (.ref 27), none, none, none] [.ref (75 + i), .ref 27] (hG σ sr ln Lc μ) rfl ?_
  refine am_lgetR (i := i) (k := 1) rfl (by omega) (by decide) (by rw [hs]; exact ⟨_, rfl⟩) ?_
  refine am_call (y := 56) (vs := [.ref 27, .int (ln i 1)]) (rest := []) (v := (some (.int (am_hat (σ 22) (ln i 1))))) (h1 := (hG σ sr ln Lc μ)) rfl rfl rfl (sp_X7_heldAt_1 (σ := σ) (μ := μ) (d + 2) _ h1) ?_
  refine am_g 3 11 [some (.ref (75 + i)), some (.ref 27), some (.int (am_hat (σ 22) (ln i 1))), some (.int 0), none] [] (hG σ sr ln Lc μ) rfl ?_
  have lp : ∀ (r o : Nat) (pl : Option Value), o + r = 16 → am_R xs LL cd_X0_allow (am_X xs LL (d + 3)) 11 [some (.ref (75 + i)), some (.ref 27), some (.int (am_hat (σ 22) (ln i 1))), some (.int (nI o)), pl] [] (hG (am_up σ 23 (am_it (am_caS (am_kf σ true) (σ 1) (σ 2) (σ 3) (σ 22) (ln i) (am_hat (σ 22) (ln i 1)) n) (σ 23) o)) sr ln Lc μ) none (hG (am_up σ 23 (am_it (am_caS (am_kf σ true) (σ 1) (σ 2) (σ 3) (σ 22) (ln i) (am_hat (σ 22) (ln i 1)) n) (σ 23) 16)) sr ln Lc μ) := by
    intro r
    induction r with
    | zero =>
      intro o pl hi
      have hi2 : o = 16 := by omega
      rw [hi2]
      refine am_g 3 (if 16 ≤ (nI 16) then 113 else 17) [some (.ref (75 + i)), some (.ref 27), some (.int (am_hat (σ 22) (ln i 1))), some (.int (nI 16)), pl] [] (hG (am_up σ 23 (am_it (am_caS (am_kf σ true) (σ 1) (σ 2) (σ 3) (σ 22) (ln i) (am_hat (σ 22) (ln i 1)) n) (σ 23) 16)) sr ln Lc μ) rfl ?_
      rw [if_pos (show 16 ≤ (nI 16) from (am_dle (a := 16) (b := 16) (rfl) (rfl) (by omega) (by omega) (by omega)))]
      exact am_ret2 rfl rfl rfl rfl rfl
    | succ r ih =>
      intro o pl hi
      have hi2 : o < 16 := by omega
      refine am_g 3 (if 16 ≤ (nI o) then 113 else 17) [some (.ref (75 + i)), some (.ref 27), some (.int (am_hat (σ 22) (ln i 1))), some (.int (nI o)), pl] [] (hG (am_up σ 23 (am_it (am_caS (am_kf σ true) (σ 1) (σ 2) (σ 3) (σ 22) (ln i) (am_hat (σ 22) (ln i 1)) n) (σ 23) o)) sr ln Lc μ) rfl ?_
      rw [if_neg (show ¬ 16 ≤ (nI o) from (am_dnle (a := 16) (b := o) (rfl) (rfl) (by omega) (by omega) (by omega)))]
      refine am_g 2 19 [some (.ref (75 + i)), some (.ref 27), some (.int (am_hat (σ 22) (ln i 1))), some (.int (nI o)), pl] [.int (nI o), .int (am_hat (σ 22) (ln i 1))] (hG (am_up σ 23 (am_it (am_caS (am_kf σ true) (σ 1) (σ 2) (σ 3) (σ 22) (ln i) (am_hat (σ 22) (ln i 1)) n) (σ 23) o)) sr ln Lc μ) rfl ?_
      cases e1 : am_hb (am_hat (σ 22) (ln i 1)) o with
      | false =>
        refine am_call (y := 126) (vs := [.int (am_hat (σ 22) (ln i 1)), .int (nI o)]) (rest := []) (v := (some (.int 0))) (h1 := (hG (am_up σ 23 (am_it (am_caS (am_kf σ true) (σ 1) (σ 2) (σ 3) (σ 22) (ln i) (am_hat (σ 22) (ln i 1)) n) (σ 23) o)) sr ln Lc μ)) rfl rfl rfl (sp_X11_hasBit (d + 2) _ _ _ e1) ?_
        refine am_g 8 11 [some (.ref (75 + i)), some (.ref 27), some (.int (am_hat (σ 22) (ln i 1))), some (.int ((nI o) + 1)), some (.int (-1))] [] (hG (am_up σ 23 (am_it (am_caS (am_kf σ true) (σ 1) (σ 2) (σ 3) (σ 22) (ln i) (am_hat (σ 22) (ln i 1)) n) (σ 23) o)) sr ln Lc μ) rfl ?_
        rw [nI_up, ← (show am_it (am_caS (am_kf σ true) (σ 1) (σ 2) (σ 3) (σ 22) (ln i) (am_hat (σ 22) (ln i 1)) n) (σ 23) (o + 1) = (am_it (am_caS (am_kf σ true) (σ 1) (σ 2) (σ 3) (σ 22) (ln i) (am_hat (σ 22) (ln i 1)) n) (σ 23) o) from (by rw [am_itS]; unfold am_caS; rw [e1]; rfl))]
        exact ih (o + 1) _ (by omega)
      | true =>
        refine am_call (y := 126) (vs := [.int (am_hat (σ 22) (ln i 1)), .int (nI o)]) (rest := []) (v := (some (.int 1))) (h1 := (hG (am_up σ 23 (am_it (am_caS (am_kf σ true) (σ 1) (σ 2) (σ 3) (σ 22) (ln i) (am_hat (σ 22) (ln i 1)) n) (σ 23) o)) sr ln Lc μ)) rfl rfl rfl (sp_X11_hasBit (d + 2) _ _ _ e1) ?_
        refine am_g 4 28 [some (.ref (75 + i)), some (.ref 27), some (.int (am_hat (σ 22) (ln i 1))), some (.int (nI o)), pl] [.ref (75 + i), .int (nI o), .ref 27] (hG (am_up σ 23 (am_it (am_caS (am_kf σ true) (σ 1) (σ 2) (σ 3) (σ 22) (ln i) (am_hat (σ 22) (ln i 1)) n) (σ 23) o)) sr ln Lc μ) rfl ?_
        refine am_lgetR (i := i) (k := 2) rfl (by omega) (by decide) (by rw [hs]; exact ⟨_, rfl⟩) ?_
        refine am_call (y := 60) (vs := [.ref 27, .int (nI o), .int (ln i 2)]) (rest := []) (v := (some (.int (am_aimF (σ 1) (σ 2) n 9 (am_kf σ true o))))) (h1 := (hG (am_up σ 23 (am_it (am_caS (am_kf σ true) (σ 1) (σ 2) (σ 3) (σ 22) (ln i) (am_hat (σ 22) (ln i 1)) n) (σ 23) o)) sr ln Lc μ)) rfl rfl rfl (sp_X7_aimOfPoint_v1 (σ := (am_up σ 23 (am_it (am_caS (am_kf σ true) (σ 1) (σ 2) (σ 3) (σ 22) (ln i) (am_hat (σ 22) (ln i 1)) n) (σ 23) o))) (μ := μ) d hab o n _ (hn) (by omega) (by omega) (hok _ h1 o (by omega) e1)) ?_
        refine am_g 5 (if (am_aimF (σ 1) (σ 2) n 9 (am_kf σ true o)) = (-1) then 107 else 46) [some (.ref (75 + i)), some (.ref 27), some (.int (am_hat (σ 22) (ln i 1))), some (.int (nI o)), some (.int (am_aimF (σ 1) (σ 2) n 9 (am_kf σ true o)))] [] (hG (am_up σ 23 (am_it (am_caS (am_kf σ true) (σ 1) (σ 2) (σ 3) (σ 22) (ln i) (am_hat (σ 22) (ln i 1)) n) (σ 23) o)) sr ln Lc μ) rfl (am_brR (fun c2 => ?_) (fun c2 => ?_))
        · skip
          refine am_g 2 11 [some (.ref (75 + i)), some (.ref 27), some (.int (am_hat (σ 22) (ln i 1))), some (.int ((nI o) + 1)), some (.int (am_aimF (σ 1) (σ 2) n 9 (am_kf σ true o)))] [] (hG (am_up σ 23 (am_it (am_caS (am_kf σ true) (σ 1) (σ 2) (σ 3) (σ 22) (ln i) (am_hat (σ 22) (ln i 1)) n) (σ 23) o)) sr ln Lc μ) rfl ?_
          rw [nI_up, ← (show am_it (am_caS (am_kf σ true) (σ 1) (σ 2) (σ 3) (σ 22) (ln i) (am_hat (σ 22) (ln i 1)) n) (σ 23) (o + 1) = (am_it (am_caS (am_kf σ true) (σ 1) (σ 2) (σ 3) (σ 22) (ln i) (am_hat (σ 22) (ln i 1)) n) (σ 23) o) from (by rw [am_itS]; unfold am_caS am_clS; rw [e1, cond_true, if_pos c2]; try rfl))]
          exact ih (o + 1) _ (by omega)
        · skip
          refine am_g 5 54 [some (.ref (75 + i)), some (.ref 27), some (.int (am_hat (σ 22) (ln i 1))), some (.int (nI o)), some (.int (am_aimF (σ 1) (σ 2) n 9 (am_kf σ true o)))] [.int 0, .int (am_aimF (σ 1) (σ 2) n 9 (am_kf σ true o)), .ref 15, .ref 27] (hG (am_up σ 23 (am_it (am_caS (am_kf σ true) (σ 1) (σ 2) (σ 3) (σ 22) (ln i) (am_hat (σ 22) (ln i 1)) n) (σ 23) o)) sr ln Lc μ) rfl ?_
          refine am_call (y := 28) (vs := [.ref 15, .int (am_aimF (σ 1) (σ 2) n 9 (am_kf σ true o)), .int 0]) (rest := [.ref 27]) (v := (some (.int (σ 3 (3 * (am_aimF (σ 1) (σ 2) n 9 (am_kf σ true o)).toNatClampNeg + 0))))) (h1 := (hG (am_up σ 23 (am_it (am_caS (am_kf σ true) (σ 1) (σ 2) (σ 3) (σ 22) (ln i) (am_hat (σ 22) (ln i 1)) n) (σ 23) o)) sr ln Lc μ)) rfl rfl rfl (sp_X3_nameOf_v (σ := (am_up σ 23 (am_it (am_caS (am_kf σ true) (σ 1) (σ 2) (σ 3) (σ 22) (ln i) (am_hat (σ 22) (ln i 1)) n) (σ 23) o))) (μ := μ) (d + 1) _ 0 ((am_aimF_pl hab how (a := n) (by omega) 9 _ (hok _ h1 o (by omega) e1)).resolve_left c2) (by decide)) ?_
          refine am_g 3 60 [some (.ref (75 + i)), some (.ref 27), some (.int (am_hat (σ 22) (ln i 1))), some (.int (nI o)), some (.int (am_aimF (σ 1) (σ 2) n 9 (am_kf σ true o)))] [.int (1 <<< ((nI o) &&& 31)), .int (σ 3 (3 * (am_aimF (σ 1) (σ 2) n 9 (am_kf σ true o)).toNatClampNeg + 0)), .ref 27] (hG (am_up σ 23 (am_it (am_caS (am_kf σ true) (σ 1) (σ 2) (σ 3) (σ 22) (ln i) (am_hat (σ 22) (ln i 1)) n) (σ 23) o)) sr ln Lc μ) rfl ?_
          refine am_call (y := 57) (vs := [.ref 27, .int (σ 3 (3 * (am_aimF (σ 1) (σ 2) n 9 (am_kf σ true o)).toNatClampNeg + 0)), .int (1 <<< ((nI o) &&& 31))]) (rest := []) (v := none) (h1 := (hG (am_up σ 23 (am_add (am_it (am_caS (am_kf σ true) (σ 1) (σ 2) (σ 3) (σ 22) (ln i) (am_hat (σ 22) (ln i 1)) n) (σ 23) o) (σ 3 (3 * (am_aimF (σ 1) (σ 2) n 9 (am_kf σ true o)).toNatClampNeg + 0)) (1 <<< ((nI o) &&& 31)))) sr ln Lc μ)) rfl rfl rfl (sp_X7_add_1 (σ := (am_up σ 23 (am_it (am_caS (am_kf σ true) (σ 1) (σ 2) (σ 3) (σ 22) (ln i) (am_hat (σ 22) (ln i 1)) n) (σ 23) o))) (μ := μ) (d + 2) _ _ (am_pl_mono (hro _ (am_roI ((am_aimF_pl hab how (a := n) (by omega) 9 _ (hok _ h1 o (by omega) e1)).resolve_left c2) (by decide))) (by decide))) ?_
          refine am_g 5 71 [some (.ref (75 + i)), some (.ref 27), some (.int (am_hat (σ 22) (ln i 1))), some (.int (nI o)), some (.int (am_aimF (σ 1) (σ 2) n 9 (am_kf σ true o)))] [.int 1, .int (am_aimF (σ 1) (σ 2) n 9 (am_kf σ true o)), .ref 15, .ref 27] (hG (am_up σ 23 (am_add (am_it (am_caS (am_kf σ true) (σ 1) (σ 2) (σ 3) (σ 22) (ln i) (am_hat (σ 22) (ln i 1)) n) (σ 23) o) (σ 3 (3 * (am_aimF (σ 1) (σ 2) n 9 (am_kf σ true o)).toNatClampNeg + 0)) (1 <<< ((nI o) &&& 31)))) sr ln Lc μ) rfl ?_
          refine am_call (y := 28) (vs := [.ref 15, .int (am_aimF (σ 1) (σ 2) n 9 (am_kf σ true o)), .int 1]) (rest := [.ref 27]) (v := (some (.int (σ 3 (3 * (am_aimF (σ 1) (σ 2) n 9 (am_kf σ true o)).toNatClampNeg + 1))))) (h1 := (hG (am_up σ 23 (am_add (am_it (am_caS (am_kf σ true) (σ 1) (σ 2) (σ 3) (σ 22) (ln i) (am_hat (σ 22) (ln i 1)) n) (σ 23) o) (σ 3 (3 * (am_aimF (σ 1) (σ 2) n 9 (am_kf σ true o)).toNatClampNeg + 0)) (1 <<< ((nI o) &&& 31)))) sr ln Lc μ)) rfl rfl rfl (sp_X3_nameOf_v (σ := (am_up σ 23 (am_add (am_it (am_caS (am_kf σ true) (σ 1) (σ 2) (σ 3) (σ 22) (ln i) (am_hat (σ 22) (ln i 1)) n) (σ 23) o) (σ 3 (3 * (am_aimF (σ 1) (σ 2) n 9 (am_kf σ true o)).toNatClampNeg + 0)) (1 <<< ((nI o) &&& 31))))) (μ := μ) (d + 1) _ 1 ((am_aimF_pl hab how (a := n) (by omega) 9 _ (hok _ h1 o (by omega) e1)).resolve_left c2) (by decide)) ?_
          refine am_g 2 76 [some (.ref (75 + i)), some (.ref 27), some (.int (am_hat (σ 22) (ln i 1))), some (.int (nI o)), some (.int (am_aimF (σ 1) (σ 2) n 9 (am_kf σ true o)))] [.ref (75 + i), .ref 27, .int (σ 3 (3 * (am_aimF (σ 1) (σ 2) n 9 (am_kf σ true o)).toNatClampNeg + 1)), .ref 27] (hG (am_up σ 23 (am_add (am_it (am_caS (am_kf σ true) (σ 1) (σ 2) (σ 3) (σ 22) (ln i) (am_hat (σ 22) (ln i 1)) n) (σ 23) o) (σ 3 (3 * (am_aimF (σ 1) (σ 2) n 9 (am_kf σ true o)).toNatClampNeg + 0)) (1 <<< ((nI o) &&& 31)))) sr ln Lc μ) rfl ?_
          refine am_lget7R (i := i) rfl (by omega) (by rw [hs]; rfl) (by rw [hs]; exact ⟨_, rfl⟩) ?_
          refine am_call (y := 56) (vs := [.ref 27, .int (ln i 7)]) (rest := [.int (σ 3 (3 * (am_aimF (σ 1) (σ 2) n 9 (am_kf σ true o)).toNatClampNeg + 1)), .ref 27]) (v := (some (.int (am_hat (σ 22) (ln i 7))))) (h1 := (hG (am_up σ 23 (am_add (am_it (am_caS (am_kf σ true) (σ 1) (σ 2) (σ 3) (σ 22) (ln i) (am_hat (σ 22) (ln i 1)) n) (σ 23) o) (σ 3 (3 * (am_aimF (σ 1) (σ 2) n 9 (am_kf σ true o)).toNatClampNeg + 0)) (1 <<< ((nI o) &&& 31)))) sr ln Lc μ)) rfl rfl rfl (sp_X7_heldAt_1 (σ := (am_up σ 23 (am_add (am_it (am_caS (am_kf σ true) (σ 1) (σ 2) (σ 3) (σ 22) (ln i) (am_hat (σ 22) (ln i 1)) n) (σ 23) o) (σ 3 (3 * (am_aimF (σ 1) (σ 2) n 9 (am_kf σ true o)).toNatClampNeg + 0)) (1 <<< ((nI o) &&& 31))))) (μ := μ) (d + 2) _ h7) ?_
          refine am_call (y := 57) (vs := [.ref 27, .int (σ 3 (3 * (am_aimF (σ 1) (σ 2) n 9 (am_kf σ true o)).toNatClampNeg + 1)), .int (am_hat (σ 22) (ln i 7))]) (rest := []) (v := none) (h1 := (hG (am_up σ 23 (am_add (am_add (am_it (am_caS (am_kf σ true) (σ 1) (σ 2) (σ 3) (σ 22) (ln i) (am_hat (σ 22) (ln i 1)) n) (σ 23) o) (σ 3 (3 * (am_aimF (σ 1) (σ 2) n 9 (am_kf σ true o)).toNatClampNeg + 0)) (1 <<< ((nI o) &&& 31))) (σ 3 (3 * (am_aimF (σ 1) (σ 2) n 9 (am_kf σ true o)).toNatClampNeg + 1)) (am_hat (σ 22) (ln i 7)))) sr ln Lc μ)) rfl rfl rfl (sp_X7_add_1 (σ := (am_up σ 23 (am_add (am_it (am_caS (am_kf σ true) (σ 1) (σ 2) (σ 3) (σ 22) (ln i) (am_hat (σ 22) (ln i 1)) n) (σ 23) o) (σ 3 (3 * (am_aimF (σ 1) (σ 2) n 9 (am_kf σ true o)).toNatClampNeg + 0)) (1 <<< ((nI o) &&& 31))))) (μ := μ) (d + 2) _ _ (am_pl_mono (hro _ (am_roI ((am_aimF_pl hab how (a := n) (by omega) 9 _ (hok _ h1 o (by omega) e1)).resolve_left c2) (by decide))) (by decide))) ?_
          refine am_g 2 87 [some (.ref (75 + i)), some (.ref 27), some (.int (am_hat (σ 22) (ln i 1))), some (.int (nI o)), some (.int (am_aimF (σ 1) (σ 2) n 9 (am_kf σ true o)))] [.ref (75 + i), .ref 27] (hG (am_up σ 23 (am_add (am_add (am_it (am_caS (am_kf σ true) (σ 1) (σ 2) (σ 3) (σ 22) (ln i) (am_hat (σ 22) (ln i 1)) n) (σ 23) o) (σ 3 (3 * (am_aimF (σ 1) (σ 2) n 9 (am_kf σ true o)).toNatClampNeg + 0)) (1 <<< ((nI o) &&& 31))) (σ 3 (3 * (am_aimF (σ 1) (σ 2) n 9 (am_kf σ true o)).toNatClampNeg + 1)) (am_hat (σ 22) (ln i 7)))) sr ln Lc μ) rfl ?_
          refine am_lgetR (i := i) (k := 0) rfl (by omega) (by decide) (by rw [hs]; exact ⟨_, rfl⟩) ?_
          refine am_g 5 98 [some (.ref (75 + i)), some (.ref 27), some (.int (am_hat (σ 22) (ln i 1))), some (.int (nI o)), some (.int (am_aimF (σ 1) (σ 2) n 9 (am_kf σ true o)))] [.int 2, .int (am_aimF (σ 1) (σ 2) n 9 (am_kf σ true o)), .ref 15, .ref 27, .int (ln i 0), .ref 27] (hG (am_up σ 23 (am_add (am_add (am_it (am_caS (am_kf σ true) (σ 1) (σ 2) (σ 3) (σ 22) (ln i) (am_hat (σ 22) (ln i 1)) n) (σ 23) o) (σ 3 (3 * (am_aimF (σ 1) (σ 2) n 9 (am_kf σ true o)).toNatClampNeg + 0)) (1 <<< ((nI o) &&& 31))) (σ 3 (3 * (am_aimF (σ 1) (σ 2) n 9 (am_kf σ true o)).toNatClampNeg + 1)) (am_hat (σ 22) (ln i 7)))) sr ln Lc μ) rfl ?_
          refine am_call (y := 28) (vs := [.ref 15, .int (am_aimF (σ 1) (σ 2) n 9 (am_kf σ true o)), .int 2]) (rest := [.ref 27, .int (ln i 0), .ref 27]) (v := (some (.int (σ 3 (3 * (am_aimF (σ 1) (σ 2) n 9 (am_kf σ true o)).toNatClampNeg + 2))))) (h1 := (hG (am_up σ 23 (am_add (am_add (am_it (am_caS (am_kf σ true) (σ 1) (σ 2) (σ 3) (σ 22) (ln i) (am_hat (σ 22) (ln i 1)) n) (σ 23) o) (σ 3 (3 * (am_aimF (σ 1) (σ 2) n 9 (am_kf σ true o)).toNatClampNeg + 0)) (1 <<< ((nI o) &&& 31))) (σ 3 (3 * (am_aimF (σ 1) (σ 2) n 9 (am_kf σ true o)).toNatClampNeg + 1)) (am_hat (σ 22) (ln i 7)))) sr ln Lc μ)) rfl rfl rfl (sp_X3_nameOf_v (σ := (am_up σ 23 (am_add (am_add (am_it (am_caS (am_kf σ true) (σ 1) (σ 2) (σ 3) (σ 22) (ln i) (am_hat (σ 22) (ln i 1)) n) (σ 23) o) (σ 3 (3 * (am_aimF (σ 1) (σ 2) n 9 (am_kf σ true o)).toNatClampNeg + 0)) (1 <<< ((nI o) &&& 31))) (σ 3 (3 * (am_aimF (σ 1) (σ 2) n 9 (am_kf σ true o)).toNatClampNeg + 1)) (am_hat (σ 22) (ln i 7))))) (μ := μ) (d + 1) _ 2 ((am_aimF_pl hab how (a := n) (by omega) 9 _ (hok _ h1 o (by omega) e1)).resolve_left c2) (by decide)) ?_
          refine am_call (y := 56) (vs := [.ref 27, .int (σ 3 (3 * (am_aimF (σ 1) (σ 2) n 9 (am_kf σ true o)).toNatClampNeg + 2))]) (rest := [.int (ln i 0), .ref 27]) (v := (some (.int (am_hat (σ 22) (σ 3 (3 * (am_aimF (σ 1) (σ 2) n 9 (am_kf σ true o)).toNatClampNeg + 2)))))) (h1 := (hG (am_up σ 23 (am_add (am_add (am_it (am_caS (am_kf σ true) (σ 1) (σ 2) (σ 3) (σ 22) (ln i) (am_hat (σ 22) (ln i 1)) n) (σ 23) o) (σ 3 (3 * (am_aimF (σ 1) (σ 2) n 9 (am_kf σ true o)).toNatClampNeg + 0)) (1 <<< ((nI o) &&& 31))) (σ 3 (3 * (am_aimF (σ 1) (σ 2) n 9 (am_kf σ true o)).toNatClampNeg + 1)) (am_hat (σ 22) (ln i 7)))) sr ln Lc μ)) rfl rfl rfl (sp_X7_heldAt_1 (σ := (am_up σ 23 (am_add (am_add (am_it (am_caS (am_kf σ true) (σ 1) (σ 2) (σ 3) (σ 22) (ln i) (am_hat (σ 22) (ln i 1)) n) (σ 23) o) (σ 3 (3 * (am_aimF (σ 1) (σ 2) n 9 (am_kf σ true o)).toNatClampNeg + 0)) (1 <<< ((nI o) &&& 31))) (σ 3 (3 * (am_aimF (σ 1) (σ 2) n 9 (am_kf σ true o)).toNatClampNeg + 1)) (am_hat (σ 22) (ln i 7))))) (μ := μ) (d + 2) _ (am_pl_mono (hro _ (am_roI ((am_aimF_pl hab how (a := n) (by omega) 9 _ (hok _ h1 o (by omega) e1)).resolve_left c2) (by decide))) (by decide))) ?_
          refine am_call (y := 57) (vs := [.ref 27, .int (ln i 0), .int (am_hat (σ 22) (σ 3 (3 * (am_aimF (σ 1) (σ 2) n 9 (am_kf σ true o)).toNatClampNeg + 2)))]) (rest := []) (v := none) (h1 := (hG (am_up σ 23 (am_add (am_add (am_add (am_it (am_caS (am_kf σ true) (σ 1) (σ 2) (σ 3) (σ 22) (ln i) (am_hat (σ 22) (ln i 1)) n) (σ 23) o) (σ 3 (3 * (am_aimF (σ 1) (σ 2) n 9 (am_kf σ true o)).toNatClampNeg + 0)) (1 <<< ((nI o) &&& 31))) (σ 3 (3 * (am_aimF (σ 1) (σ 2) n 9 (am_kf σ true o)).toNatClampNeg + 1)) (am_hat (σ 22) (ln i 7))) (ln i 0) (am_hat (σ 22) (σ 3 (3 * (am_aimF (σ 1) (σ 2) n 9 (am_kf σ true o)).toNatClampNeg + 2))))) sr ln Lc μ)) rfl rfl rfl (sp_X7_add_1 (σ := (am_up σ 23 (am_add (am_add (am_it (am_caS (am_kf σ true) (σ 1) (σ 2) (σ 3) (σ 22) (ln i) (am_hat (σ 22) (ln i 1)) n) (σ 23) o) (σ 3 (3 * (am_aimF (σ 1) (σ 2) n 9 (am_kf σ true o)).toNatClampNeg + 0)) (1 <<< ((nI o) &&& 31))) (σ 3 (3 * (am_aimF (σ 1) (σ 2) n 9 (am_kf σ true o)).toNatClampNeg + 1)) (am_hat (σ 22) (ln i 7))))) (μ := μ) (d + 2) _ _ h0) ?_
          refine am_g 2 11 [some (.ref (75 + i)), some (.ref 27), some (.int (am_hat (σ 22) (ln i 1))), some (.int ((nI o) + 1)), some (.int (am_aimF (σ 1) (σ 2) n 9 (am_kf σ true o)))] [] (hG (am_up σ 23 (am_add (am_add (am_add (am_it (am_caS (am_kf σ true) (σ 1) (σ 2) (σ 3) (σ 22) (ln i) (am_hat (σ 22) (ln i 1)) n) (σ 23) o) (σ 3 (3 * (am_aimF (σ 1) (σ 2) n 9 (am_kf σ true o)).toNatClampNeg + 0)) (1 <<< ((nI o) &&& 31))) (σ 3 (3 * (am_aimF (σ 1) (σ 2) n 9 (am_kf σ true o)).toNatClampNeg + 1)) (am_hat (σ 22) (ln i 7))) (ln i 0) (am_hat (σ 22) (σ 3 (3 * (am_aimF (σ 1) (σ 2) n 9 (am_kf σ true o)).toNatClampNeg + 2))))) sr ln Lc μ) rfl ?_
          rw [nI_up, ← (show am_it (am_caS (am_kf σ true) (σ 1) (σ 2) (σ 3) (σ 22) (ln i) (am_hat (σ 22) (ln i 1)) n) (σ 23) (o + 1) = (am_add (am_add (am_add (am_it (am_caS (am_kf σ true) (σ 1) (σ 2) (σ 3) (σ 22) (ln i) (am_hat (σ 22) (ln i 1)) n) (σ 23) o) (σ 3 (3 * (am_aimF (σ 1) (σ 2) n 9 (am_kf σ true o)).toNatClampNeg + 0)) (1 <<< ((nI o) &&& 31))) (σ 3 (3 * (am_aimF (σ 1) (σ 2) n 9 (am_kf σ true o)).toNatClampNeg + 1)) (am_hat (σ 22) (ln i 7))) (ln i 0) (am_hat (σ 22) (σ 3 (3 * (am_aimF (σ 1) (σ 2) n 9 (am_kf σ true o)).toNatClampNeg + 2)))) from (by rw [am_itS]; unfold am_caS am_clS; rw [e1, cond_true, if_neg c2]; try rfl))]
          exact ih (o + 1) _ (by omega)
  exact lp 16 0 none (by omega)
theorem sp_allow_1 (d i : Nat) (hi : i < Lc) (hs : sr i < 6) (hw : am_wl (sr i) (ln i)) (hab : am_wab (σ 1)) (how : ∀ p, p < 24 → am_pl 6 (σ 2 p)) (hro : ∀ p, p < 18 → am_pl 20 (σ 3 p)) (hok : am_okW (am_kf σ true) (σ 22)) : am_X xs LL (d + 4) ([18, 10, 49, 85, 5, 43].getD (sr i) 0) [.ref (75 + i), .ref 27] (hG σ sr ln Lc μ) none (hG (am_up σ 23 (am_alw (am_kf σ true) (σ 1) (σ 2) (σ 3) true (sr i) (ln i) (σ 22) (σ 23))) sr ln Lc μ) := by
  obtain ⟨⟨a, ha, h0⟩, h1, -, -, hn3, -, -, h7, -, -⟩ := hw
  have h0 : am_pl 68 (ln i 0) := Or.inr ⟨a, by omega, h0⟩
  have h1 : am_pl 68 (ln i 1) := am_pl_mono h1 (by decide)
  generalize hq : sr i = s at hs hn3 h7 ⊢
  match s, hs with
  | 0, _ => exact sp_X2_allow_1 (d + 2) i hi hq h0 h1
  | 1, _ => exact sp_X1_allow_1 d i hi hq h0 h1 hab hok
  | 2, _ =>
    obtain ⟨n, hn, e⟩ := hn3 (by decide) (by decide)
    have k := sp_X6_allow_1 (σ := σ) (μ := μ) (xs := xs) (LL := LL) (d + 1) i hi hq e hn h0 h1
    unfold am_alw
    rw [e, nI_clamp (by omega)]
    exact k
  | 3, _ =>
    obtain ⟨n, hn, e⟩ := hn3 (by decide) (by decide)
    have k := sp_X10_allow_1 (σ := σ) (μ := μ) (xs := xs) (LL := LL) (d + 1) i hi hq e hn h0 h1
    unfold am_alw
    rw [e, nI_clamp (by omega)]
    exact k
  | 4, _ =>
    obtain ⟨n, hn, e⟩ := hn3 (by decide) (by decide)
    obtain ⟨z, hz, e7⟩ := h7 rfl
    have k := sp_X0_allow_1 (σ := σ) (μ := μ) (xs := xs) (LL := LL) d i hi hq e hn h0 h1 (Or.inr ⟨z, by omega, e7⟩) hab how hro hok
    unfold am_alw
    rw [e, nI_clamp (by omega)]
    exact k
  | 5, _ => exact sp_X5_allow_1 (d + 2) i hi hq h0
theorem sp_X7_aimOfPoint_v2 (d : Nat) (hab : am_wab (σ 1)) (p a : Nat) (v : Int32) (hv : v = nI a) (hp : p < 16) (ha : a < 3) (hk : am_pl 8 (am_kf σ false p)) : am_X xs LL (d + 3) 60 [.ref 31, .int (nI p), .int v] (hG σ sr ln Lc μ) (some (.int (am_aimF (σ 1) (σ 2) a 9 (am_kf σ false p)))) (hG σ sr ln Lc μ) := by
  subst hv
  exact sp_X7_aimOfPoint_2 d hab p a hp ha hk
theorem sp_X2_allow_2 (d : Nat) (i : Nat) (hi : i < Lc) (hs : sr i = 0) (h0 : am_pl 68 (ln i 0)) (h1 : am_pl 68 (ln i 1)) : am_X xs LL (d + 2) 18 [.ref (75 + i), .ref 31] (hG σ sr ln Lc μ) none (hG (am_up σ 33 (am_add (σ 33) (ln i 0) (am_hat (σ 32) (ln i 1)))) sr ln Lc μ) := by
  refine am_XR (d := d + 1) (C := cd_X2_allow) (L := [some (.ref (75 + i)), some (.ref 31)]) rfl rfl rfl rfl ?_
  refine am_g 2 2 [some (.ref (75 + i)), some (.ref 31)] [.ref (75 + i), .ref 31] (hG σ sr ln Lc μ) rfl ?_
  refine am_lgetR (i := i) (k := 0) rfl (by omega) (by decide) (by rw [hs]; exact ⟨_, rfl⟩) ?_
  refine am_g 2 7 [some (.ref (75 + i)), some (.ref 31)] [.ref (75 + i), .ref 31, .int (ln i 0), .ref 31] (hG σ sr ln Lc μ) rfl ?_
  refine am_lgetR (i := i) (k := 1) rfl (by omega) (by decide) (by rw [hs]; exact ⟨_, rfl⟩) ?_
  refine am_call (y := 56) (vs := [.ref 31, .int (ln i 1)]) (rest := [.int (ln i 0), .ref 31]) (v := (some (.int (am_hat (σ 32) (ln i 1))))) (h1 := (hG σ sr ln Lc μ)) rfl rfl rfl (sp_X7_heldAt_2 (σ := σ) (μ := μ) d _ h1) ?_
  refine am_call (y := 57) (vs := [.ref 31, .int (ln i 0), .int (am_hat (σ 32) (ln i 1))]) (rest := []) (v := none) (h1 := (hG (am_up σ 33 (am_add (σ 33) (ln i 0) (am_hat (σ 32) (ln i 1)))) sr ln Lc μ)) rfl rfl rfl (sp_X7_add_2 (σ := σ) (μ := μ) d _ _ h0) ?_
  exact am_ret2 rfl rfl rfl rfl rfl
theorem sp_X1_allow_2 (d : Nat) (i : Nat) (hi : i < Lc) (hs : sr i = 1) (h0 : am_pl 68 (ln i 0)) (h1 : am_pl 68 (ln i 1)) (hab : am_wab (σ 1)) (hok : am_okW (am_kf σ false) (σ 32)) : am_X xs LL (d + 4) 10 [.ref (75 + i), .ref 31] (hG σ sr ln Lc μ) none (hG (am_up σ 33 (am_add (σ 33) (ln i 0) (am_orF (am_okF (σ 1) (am_kf σ false) (am_hat (σ 32) (ln i 1)) (ln i 2)) 16))) sr ln Lc μ) := by
  refine am_XR (d := d + 3) (C := cd_X1_allow) (L := [some (.ref (75 + i)), some (.ref 31)]) rfl rfl rfl rfl ?_
  refine am_g 2 2 [some (.ref (75 + i)), some (.ref 31)] [.ref (75 + i), .ref 31] (hG σ sr ln Lc μ) rfl ?_
  refine am_lgetR (i := i) (k := 0) rfl (by omega) (by decide) (by rw [hs]; exact ⟨_, rfl⟩) ?_
  refine am_g 3 8 [some (.ref (75 + i)), some (.ref 31)] [.ref (75 + i), .ref 31, .ref 31, .int (ln i 0), .ref 31] (hG σ sr ln Lc μ) rfl ?_
  refine am_lgetR (i := i) (k := 1) rfl (by omega) (by decide) (by rw [hs]; exact ⟨_, rfl⟩) ?_
  refine am_call (y := 56) (vs := [.ref 31, .int (ln i 1)]) (rest := [.ref 31, .int (ln i 0), .ref 31]) (v := (some (.int (am_hat (σ 32) (ln i 1))))) (h1 := (hG σ sr ln Lc μ)) rfl rfl rfl (sp_X7_heldAt_2 (σ := σ) (μ := μ) (d + 2) _ h1) ?_
  refine am_g 1 15 [some (.ref (75 + i)), some (.ref 31)] [.ref (75 + i), .int (am_hat (σ 32) (ln i 1)), .ref 31, .int (ln i 0), .ref 31] (hG σ sr ln Lc μ) rfl ?_
  refine am_lgetR (i := i) (k := 2) rfl (by omega) (by decide) (by rw [hs]; exact ⟨_, rfl⟩) ?_
  refine am_call (y := 61) (vs := [.ref 31, .int (am_hat (σ 32) (ln i 1)), .int (ln i 2)]) (rest := [.int (ln i 0), .ref 31]) (v := (some (.int (am_orF (am_okF (σ 1) (am_kf σ false) (am_hat (σ 32) (ln i 1)) (ln i 2)) 16)))) (h1 := (hG σ sr ln Lc μ)) rfl rfl rfl (sp_X7_partUnder_2 (σ := σ) (μ := μ) d hab _ _ (hok _ h1)) ?_
  refine am_call (y := 57) (vs := [.ref 31, .int (ln i 0), .int (am_orF (am_okF (σ 1) (am_kf σ false) (am_hat (σ 32) (ln i 1)) (ln i 2)) 16)]) (rest := []) (v := none) (h1 := (hG (am_up σ 33 (am_add (σ 33) (ln i 0) (am_orF (am_okF (σ 1) (am_kf σ false) (am_hat (σ 32) (ln i 1)) (ln i 2)) 16))) sr ln Lc μ)) rfl rfl rfl (sp_X7_add_2 (σ := σ) (μ := μ) (d + 2) _ _ h0) ?_
  exact am_ret2 rfl rfl rfl rfl rfl
theorem sp_X5_allow_2 (d : Nat) (i : Nat) (hi : i < Lc) (hs : sr i = 5) (h0 : am_pl 68 (ln i 0)) : am_X xs LL (d + 2) 43 [.ref (75 + i), .ref 31] (hG σ sr ln Lc μ) none (hG (am_up σ 33 (am_add (σ 33) (ln i 0) (1 <<< ((ln i 7) &&& 31)))) sr ln Lc μ) := by
  refine am_XR (d := d + 1) (C := cd_X5_allow) (L := [some (.ref (75 + i)), some (.ref 31)]) rfl rfl rfl rfl ?_
  refine am_g 2 2 [some (.ref (75 + i)), some (.ref 31)] [.ref (75 + i), .ref 31] (hG σ sr ln Lc μ) rfl ?_
  refine am_lgetR (i := i) (k := 0) rfl (by omega) (by decide) (by rw [hs]; exact ⟨_, rfl⟩) ?_
  refine am_g 5 21 [some (.ref (75 + i)), some (.ref 31)] [.ref (75 + i), .int 1, .int (ln i 0), .ref 31] (hG σ sr ln Lc μ) rfl ?_
  refine am_lget7R (i := i) rfl (by omega) (by rw [hs]; rfl) (by rw [hs]; exact ⟨_, rfl⟩) ?_
  refine am_g 1 25 [some (.ref (75 + i)), some (.ref 31)] [.int (1 <<< ((ln i 7) &&& 31)), .int (ln i 0), .ref 31] (hG σ sr ln Lc μ) rfl ?_
  refine am_call (y := 57) (vs := [.ref 31, .int (ln i 0), .int (1 <<< ((ln i 7) &&& 31))]) (rest := []) (v := none) (h1 := (hG (am_up σ 33 (am_add (σ 33) (ln i 0) (1 <<< ((ln i 7) &&& 31)))) sr ln Lc μ)) rfl rfl rfl (sp_X7_add_2 (σ := σ) (μ := μ) d _ _ h0) ?_
  exact am_ret2 rfl rfl rfl rfl rfl
theorem sp_X6_allow_2 (d : Nat) (i : Nat) (hi : i < Lc) (hs : sr i = 2) {n : Nat} (hn : ln i 2 = nI n) (hn3 : n < 3) (h0 : am_pl 68 (ln i 0)) (h1 : am_pl 68 (ln i 1)) : am_X xs LL (d + 3) 49 [.ref (75 + i), .ref 31] (hG σ sr ln Lc μ) none (hG (am_up σ 33 (am_it (am_rdS (σ 32) (am_hat (σ 32) (ln i 1)) (ln i 0) n) (σ 33) 16)) sr ln Lc μ) := by
  refine am_XR (d := d + 2) (C := cd_X6_allow) (L := [some (.ref (75 + i)), some (.ref 31), none, none]) rfl rfl rfl rfl ?_
  refine am_g 2 2 [some (.ref (75 + i)), some (.ref 31), none, none] [.ref (75 + i), .ref 31] (hG σ sr ln Lc μ) rfl ?_
  refine am_lgetR (i := i) (k := 1) rfl (by omega) (by decide) (by rw [hs]; exact ⟨_, rfl⟩) ?_
  refine am_call (y := 56) (vs := [.ref 31, .int (ln i 1)]) (rest := []) (v := (some (.int (am_hat (σ 32) (ln i 1))))) (h1 := (hG σ sr ln Lc μ)) rfl rfl rfl (sp_X7_heldAt_2 (σ := σ) (μ := μ) (d + 1) _ h1) ?_
  refine am_g 3 11 [some (.ref (75 + i)), some (.ref 31), some (.int (am_hat (σ 32) (ln i 1))), some (.int 0)] [] (hG σ sr ln Lc μ) rfl ?_
  have lp : ∀ (r o : Nat), o + r = 16 → am_R xs LL cd_X6_allow (am_X xs LL (d + 2)) 11 [some (.ref (75 + i)), some (.ref 31), some (.int (am_hat (σ 32) (ln i 1))), some (.int (nI o))] [] (hG (am_up σ 33 (am_it (am_rdS (σ 32) (am_hat (σ 32) (ln i 1)) (ln i 0) n) (σ 33) o)) sr ln Lc μ) none (hG (am_up σ 33 (am_it (am_rdS (σ 32) (am_hat (σ 32) (ln i 1)) (ln i 0) n) (σ 33) 16)) sr ln Lc μ) := by
    intro r
    induction r with
    | zero =>
      intro o  hi
      have hi2 : o = 16 := by omega
      rw [hi2]
      refine am_g 3 (if 16 ≤ (nI 16) then 51 else 17) [some (.ref (75 + i)), some (.ref 31), some (.int (am_hat (σ 32) (ln i 1))), some (.int (nI 16))] [] (hG (am_up σ 33 (am_it (am_rdS (σ 32) (am_hat (σ 32) (ln i 1)) (ln i 0) n) (σ 33) 16)) sr ln Lc μ) rfl ?_
      rw [if_pos (show 16 ≤ (nI 16) from (am_dle (a := 16) (b := 16) (rfl) (rfl) (by omega) (by omega) (by omega)))]
      exact am_ret2 rfl rfl rfl rfl rfl
    | succ r ih =>
      intro o  hi
      have hi2 : o < 16 := by omega
      refine am_g 3 (if 16 ≤ (nI o) then 51 else 17) [some (.ref (75 + i)), some (.ref 31), some (.int (am_hat (σ 32) (ln i 1))), some (.int (nI o))] [] (hG (am_up σ 33 (am_it (am_rdS (σ 32) (am_hat (σ 32) (ln i 1)) (ln i 0) n) (σ 33) o)) sr ln Lc μ) rfl ?_
      rw [if_neg (show ¬ 16 ≤ (nI o) from (am_dnle (a := 16) (b := o) (rfl) (rfl) (by omega) (by omega) (by omega)))]
      refine am_g 2 19 [some (.ref (75 + i)), some (.ref 31), some (.int (am_hat (σ 32) (ln i 1))), some (.int (nI o))] [.int (nI o), .int (am_hat (σ 32) (ln i 1))] (hG (am_up σ 33 (am_it (am_rdS (σ 32) (am_hat (σ 32) (ln i 1)) (ln i 0) n) (σ 33) o)) sr ln Lc μ) rfl ?_
      cases e1 : am_hb (am_hat (σ 32) (ln i 1)) o with
      | false =>
        refine am_call (y := 126) (vs := [.int (am_hat (σ 32) (ln i 1)), .int (nI o)]) (rest := []) (v := (some (.int 0))) (h1 := (hG (am_up σ 33 (am_it (am_rdS (σ 32) (am_hat (σ 32) (ln i 1)) (ln i 0) n) (σ 33) o)) sr ln Lc μ)) rfl rfl rfl (sp_X11_hasBit (d + 1) _ _ _ e1) ?_
        refine am_g 3 11 [some (.ref (75 + i)), some (.ref 31), some (.int (am_hat (σ 32) (ln i 1))), some (.int ((nI o) + 1))] [] (hG (am_up σ 33 (am_it (am_rdS (σ 32) (am_hat (σ 32) (ln i 1)) (ln i 0) n) (σ 33) o)) sr ln Lc μ) rfl ?_
        rw [nI_up, ← (show am_it (am_rdS (σ 32) (am_hat (σ 32) (ln i 1)) (ln i 0) n) (σ 33) (o + 1) = (am_it (am_rdS (σ 32) (am_hat (σ 32) (ln i 1)) (ln i 0) n) (σ 33) o) from (by rw [am_itS]; unfold am_rdS; rw [e1]; rfl))]
        exact ih (o + 1) (by omega)
      | true =>
        refine am_call (y := 126) (vs := [.int (am_hat (σ 32) (ln i 1)), .int (nI o)]) (rest := []) (v := (some (.int 1))) (h1 := (hG (am_up σ 33 (am_it (am_rdS (σ 32) (am_hat (σ 32) (ln i 1)) (ln i 0) n) (σ 33) o)) sr ln Lc μ)) rfl rfl rfl (sp_X11_hasBit (d + 1) _ _ _ e1) ?_
        refine am_g 3 27 [some (.ref (75 + i)), some (.ref 31), some (.int (am_hat (σ 32) (ln i 1))), some (.int (nI o))] [.ref (75 + i), .ref 31] (hG (am_up σ 33 (am_it (am_rdS (σ 32) (am_hat (σ 32) (ln i 1)) (ln i 0) n) (σ 33) o)) sr ln Lc μ) rfl ?_
        refine am_lgetR (i := i) (k := 0) rfl (by omega) (by decide) (by rw [hs]; exact ⟨_, rfl⟩) ?_
        refine am_g 3 33 [some (.ref (75 + i)), some (.ref 31), some (.int (am_hat (σ 32) (ln i 1))), some (.int (nI o))] [.ref (75 + i), .int (nI o), .ref 31, .int (ln i 0), .ref 31] (hG (am_up σ 33 (am_it (am_rdS (σ 32) (am_hat (σ 32) (ln i 1)) (ln i 0) n) (σ 33) o)) sr ln Lc μ) rfl ?_
        refine am_lgetR (i := i) (k := 2) rfl (by omega) (by decide) (by rw [hs]; exact ⟨_, rfl⟩) ?_
        refine am_call (y := 127) (vs := [.int (nI o), .int (ln i 2)]) (rest := [.ref 31, .int (ln i 0), .ref 31]) (v := (some (.int (nI (20 + 3 * o + n))))) (h1 := (hG (am_up σ 33 (am_it (am_rdS (σ 32) (am_hat (σ 32) (ln i 1)) (ln i 0) n) (σ 33) o)) sr ln Lc μ)) rfl rfl rfl (sp_X11_fieldPlace_v d o n _ _ (rfl) (hn) (by omega) (by omega) _) ?_
        refine am_call (y := 56) (vs := [.ref 31, .int (nI (20 + 3 * o + n))]) (rest := [.int (ln i 0), .ref 31]) (v := (some (.int (am_hat (σ 32) (nI (20 + 3 * o + n)))))) (h1 := (hG (am_up σ 33 (am_it (am_rdS (σ 32) (am_hat (σ 32) (ln i 1)) (ln i 0) n) (σ 33) o)) sr ln Lc μ)) rfl rfl rfl (sp_X7_heldAt_2 (σ := (am_up σ 33 (am_it (am_rdS (σ 32) (am_hat (σ 32) (ln i 1)) (ln i 0) n) (σ 33) o))) (μ := μ) (d + 1) _ (am_pl_nI (by omega))) ?_
        refine am_call (y := 57) (vs := [.ref 31, .int (ln i 0), .int (am_hat (σ 32) (nI (20 + 3 * o + n)))]) (rest := []) (v := none) (h1 := (hG (am_up σ 33 (am_add (am_it (am_rdS (σ 32) (am_hat (σ 32) (ln i 1)) (ln i 0) n) (σ 33) o) (ln i 0) (am_hat (σ 32) (nI (20 + 3 * o + n))))) sr ln Lc μ)) rfl rfl rfl (sp_X7_add_2 (σ := (am_up σ 33 (am_it (am_rdS (σ 32) (am_hat (σ 32) (ln i 1)) (ln i 0) n) (σ 33) o))) (μ := μ) (d + 1) _ _ h0) ?_
        refine am_g 2 11 [some (.ref (75 + i)), some (.ref 31), some (.int (am_hat (σ 32) (ln i 1))), some (.int ((nI o) + 1))] [] (hG (am_up σ 33 (am_add (am_it (am_rdS (σ 32) (am_hat (σ 32) (ln i 1)) (ln i 0) n) (σ 33) o) (ln i 0) (am_hat (σ 32) (nI (20 + 3 * o + n))))) sr ln Lc μ) rfl ?_
        rw [nI_up, ← (show am_it (am_rdS (σ 32) (am_hat (σ 32) (ln i 1)) (ln i 0) n) (σ 33) (o + 1) = (am_add (am_it (am_rdS (σ 32) (am_hat (σ 32) (ln i 1)) (ln i 0) n) (σ 33) o) (ln i 0) (am_hat (σ 32) (nI (20 + 3 * o + n)))) from (by rw [am_itS]; unfold am_rdS; rw [e1]; rfl))]
        exact ih (o + 1) (by omega)
  exact lp 16 0 (by omega)
theorem sp_X10_allow_2 (d : Nat) (i : Nat) (hi : i < Lc) (hs : sr i = 3) {n : Nat} (hn : ln i 2 = nI n) (hn3 : n < 3) (h0 : am_pl 68 (ln i 0)) (h1 : am_pl 68 (ln i 1)) : am_X xs LL (d + 3) 85 [.ref (75 + i), .ref 31] (hG σ sr ln Lc μ) none (hG (am_up σ 33 (am_it (am_wrS (am_hat (σ 32) (ln i 0)) (am_hat (σ 32) (ln i 1)) n) (σ 33) 16)) sr ln Lc μ) := by
  refine am_XR (d := d + 2) (C := cd_X10_allow) (L := [some (.ref (75 + i)), some (.ref 31), none, none]) rfl rfl rfl rfl ?_
  refine am_g 2 2 [some (.ref (75 + i)), some (.ref 31), none, none] [.ref (75 + i), .ref 31] (hG σ sr ln Lc μ) rfl ?_
  refine am_lgetR (i := i) (k := 0) rfl (by omega) (by decide) (by rw [hs]; exact ⟨_, rfl⟩) ?_
  refine am_call (y := 56) (vs := [.ref 31, .int (ln i 0)]) (rest := []) (v := (some (.int (am_hat (σ 32) (ln i 0))))) (h1 := (hG σ sr ln Lc μ)) rfl rfl rfl (sp_X7_heldAt_2 (σ := σ) (μ := μ) (d + 1) _ h0) ?_
  refine am_g 3 11 [some (.ref (75 + i)), some (.ref 31), some (.int (am_hat (σ 32) (ln i 0))), some (.int 0)] [] (hG σ sr ln Lc μ) rfl ?_
  have lp : ∀ (r o : Nat), o + r = 16 → am_R xs LL cd_X10_allow (am_X xs LL (d + 2)) 11 [some (.ref (75 + i)), some (.ref 31), some (.int (am_hat (σ 32) (ln i 0))), some (.int (nI o))] [] (hG (am_up σ 33 (am_it (am_wrS (am_hat (σ 32) (ln i 0)) (am_hat (σ 32) (ln i 1)) n) (σ 33) o)) sr ln Lc μ) none (hG (am_up σ 33 (am_it (am_wrS (am_hat (σ 32) (ln i 0)) (am_hat (σ 32) (ln i 1)) n) (σ 33) 16)) sr ln Lc μ) := by
    intro r
    induction r with
    | zero =>
      intro o  hi
      have hi2 : o = 16 := by omega
      rw [hi2]
      refine am_g 3 (if 16 ≤ (nI 16) then 51 else 17) [some (.ref (75 + i)), some (.ref 31), some (.int (am_hat (σ 32) (ln i 0))), some (.int (nI 16))] [] (hG (am_up σ 33 (am_it (am_wrS (am_hat (σ 32) (ln i 0)) (am_hat (σ 32) (ln i 1)) n) (σ 33) 16)) sr ln Lc μ) rfl ?_
      rw [if_pos (show 16 ≤ (nI 16) from (am_dle (a := 16) (b := 16) (rfl) (rfl) (by omega) (by omega) (by omega)))]
      exact am_ret2 rfl rfl rfl rfl rfl
    | succ r ih =>
      intro o  hi
      have hi2 : o < 16 := by omega
      refine am_g 3 (if 16 ≤ (nI o) then 51 else 17) [some (.ref (75 + i)), some (.ref 31), some (.int (am_hat (σ 32) (ln i 0))), some (.int (nI o))] [] (hG (am_up σ 33 (am_it (am_wrS (am_hat (σ 32) (ln i 0)) (am_hat (σ 32) (ln i 1)) n) (σ 33) o)) sr ln Lc μ) rfl ?_
      rw [if_neg (show ¬ 16 ≤ (nI o) from (am_dnle (a := 16) (b := o) (rfl) (rfl) (by omega) (by omega) (by omega)))]
      refine am_g 2 19 [some (.ref (75 + i)), some (.ref 31), some (.int (am_hat (σ 32) (ln i 0))), some (.int (nI o))] [.int (nI o), .int (am_hat (σ 32) (ln i 0))] (hG (am_up σ 33 (am_it (am_wrS (am_hat (σ 32) (ln i 0)) (am_hat (σ 32) (ln i 1)) n) (σ 33) o)) sr ln Lc μ) rfl ?_
      cases e1 : am_hb (am_hat (σ 32) (ln i 0)) o with
      | false =>
        refine am_call (y := 126) (vs := [.int (am_hat (σ 32) (ln i 0)), .int (nI o)]) (rest := []) (v := (some (.int 0))) (h1 := (hG (am_up σ 33 (am_it (am_wrS (am_hat (σ 32) (ln i 0)) (am_hat (σ 32) (ln i 1)) n) (σ 33) o)) sr ln Lc μ)) rfl rfl rfl (sp_X11_hasBit (d + 1) _ _ _ e1) ?_
        refine am_g 3 11 [some (.ref (75 + i)), some (.ref 31), some (.int (am_hat (σ 32) (ln i 0))), some (.int ((nI o) + 1))] [] (hG (am_up σ 33 (am_it (am_wrS (am_hat (σ 32) (ln i 0)) (am_hat (σ 32) (ln i 1)) n) (σ 33) o)) sr ln Lc μ) rfl ?_
        rw [nI_up, ← (show am_it (am_wrS (am_hat (σ 32) (ln i 0)) (am_hat (σ 32) (ln i 1)) n) (σ 33) (o + 1) = (am_it (am_wrS (am_hat (σ 32) (ln i 0)) (am_hat (σ 32) (ln i 1)) n) (σ 33) o) from (by rw [am_itS]; unfold am_wrS; rw [e1]; rfl))]
        exact ih (o + 1) (by omega)
      | true =>
        refine am_call (y := 126) (vs := [.int (am_hat (σ 32) (ln i 0)), .int (nI o)]) (rest := []) (v := (some (.int 1))) (h1 := (hG (am_up σ 33 (am_it (am_wrS (am_hat (σ 32) (ln i 0)) (am_hat (σ 32) (ln i 1)) n) (σ 33) o)) sr ln Lc μ)) rfl rfl rfl (sp_X11_hasBit (d + 1) _ _ _ e1) ?_
        refine am_g 4 28 [some (.ref (75 + i)), some (.ref 31), some (.int (am_hat (σ 32) (ln i 0))), some (.int (nI o))] [.ref (75 + i), .int (nI o), .ref 31] (hG (am_up σ 33 (am_it (am_wrS (am_hat (σ 32) (ln i 0)) (am_hat (σ 32) (ln i 1)) n) (σ 33) o)) sr ln Lc μ) rfl ?_
        refine am_lgetR (i := i) (k := 2) rfl (by omega) (by decide) (by rw [hs]; exact ⟨_, rfl⟩) ?_
        refine am_call (y := 127) (vs := [.int (nI o), .int (ln i 2)]) (rest := [.ref 31]) (v := (some (.int (nI (20 + 3 * o + n))))) (h1 := (hG (am_up σ 33 (am_it (am_wrS (am_hat (σ 32) (ln i 0)) (am_hat (σ 32) (ln i 1)) n) (σ 33) o)) sr ln Lc μ)) rfl rfl rfl (sp_X11_fieldPlace_v d o n _ _ (rfl) (hn) (by omega) (by omega) _) ?_
        refine am_g 2 36 [some (.ref (75 + i)), some (.ref 31), some (.int (am_hat (σ 32) (ln i 0))), some (.int (nI o))] [.ref (75 + i), .ref 31, .int (nI (20 + 3 * o + n)), .ref 31] (hG (am_up σ 33 (am_it (am_wrS (am_hat (σ 32) (ln i 0)) (am_hat (σ 32) (ln i 1)) n) (σ 33) o)) sr ln Lc μ) rfl ?_
        refine am_lgetR (i := i) (k := 1) rfl (by omega) (by decide) (by rw [hs]; exact ⟨_, rfl⟩) ?_
        refine am_call (y := 56) (vs := [.ref 31, .int (ln i 1)]) (rest := [.int (nI (20 + 3 * o + n)), .ref 31]) (v := (some (.int (am_hat (σ 32) (ln i 1))))) (h1 := (hG (am_up σ 33 (am_it (am_wrS (am_hat (σ 32) (ln i 0)) (am_hat (σ 32) (ln i 1)) n) (σ 33) o)) sr ln Lc μ)) rfl rfl rfl (sp_X7_heldAt_2 (σ := (am_up σ 33 (am_it (am_wrS (am_hat (σ 32) (ln i 0)) (am_hat (σ 32) (ln i 1)) n) (σ 33) o))) (μ := μ) (d + 1) _ h1) ?_
        refine am_call (y := 57) (vs := [.ref 31, .int (nI (20 + 3 * o + n)), .int (am_hat (σ 32) (ln i 1))]) (rest := []) (v := none) (h1 := (hG (am_up σ 33 (am_add (am_it (am_wrS (am_hat (σ 32) (ln i 0)) (am_hat (σ 32) (ln i 1)) n) (σ 33) o) (nI (20 + 3 * o + n)) (am_hat (σ 32) (ln i 1)))) sr ln Lc μ)) rfl rfl rfl (sp_X7_add_2 (σ := (am_up σ 33 (am_it (am_wrS (am_hat (σ 32) (ln i 0)) (am_hat (σ 32) (ln i 1)) n) (σ 33) o))) (μ := μ) (d + 1) _ _ (am_pl_nI (by omega))) ?_
        refine am_g 2 11 [some (.ref (75 + i)), some (.ref 31), some (.int (am_hat (σ 32) (ln i 0))), some (.int ((nI o) + 1))] [] (hG (am_up σ 33 (am_add (am_it (am_wrS (am_hat (σ 32) (ln i 0)) (am_hat (σ 32) (ln i 1)) n) (σ 33) o) (nI (20 + 3 * o + n)) (am_hat (σ 32) (ln i 1)))) sr ln Lc μ) rfl ?_
        rw [nI_up, ← (show am_it (am_wrS (am_hat (σ 32) (ln i 0)) (am_hat (σ 32) (ln i 1)) n) (σ 33) (o + 1) = (am_add (am_it (am_wrS (am_hat (σ 32) (ln i 0)) (am_hat (σ 32) (ln i 1)) n) (σ 33) o) (nI (20 + 3 * o + n)) (am_hat (σ 32) (ln i 1))) from (by rw [am_itS]; unfold am_wrS; rw [e1]; rfl))]
        exact ih (o + 1) (by omega)
  exact lp 16 0 (by omega)
theorem sp_X0_allow_2 (d : Nat) (i : Nat) (hi : i < Lc) (hs : sr i = 4) {n : Nat} (hn : ln i 2 = nI n) (hn3 : n < 3) (h0 : am_pl 68 (ln i 0)) (h1 : am_pl 68 (ln i 1)) (h7 : am_pl 68 (ln i 7)) (hab : am_wab (σ 1)) (how : ∀ p, p < 24 → am_pl 6 (σ 2 p)) (hro : ∀ p, p < 18 → am_pl 20 (σ 3 p)) (hok : am_okW (am_kf σ false) (σ 32)) : am_X xs LL (d + 4) 5 [.ref (75 + i), .ref 31] (hG σ sr ln Lc μ) none (hG (am_up σ 33 (am_it (am_caS (am_kf σ false) (σ 1) (σ 2) (σ 3) (σ 32) (ln i) (am_hat (σ 32) (ln i 1)) n) (σ 33) 16)) sr ln Lc μ) := by
  refine am_XR (d := d + 3) (C := cd_X0_allow) (L := [some (.ref (75 + i)), some (.ref 31), none, none, none]) rfl rfl rfl rfl ?_
  refine am_g 2 2 [some (.ref (75 + i)), some (.ref 31), none, none, none] [.ref (75 + i), .ref 31] (hG σ sr ln Lc μ) rfl ?_
  refine am_lgetR (i := i) (k := 1) rfl (by omega) (by decide) (by rw [hs]; exact ⟨_, rfl⟩) ?_
  refine am_call (y := 56) (vs := [.ref 31, .int (ln i 1)]) (rest := []) (v := (some (.int (am_hat (σ 32) (ln i 1))))) (h1 := (hG σ sr ln Lc μ)) rfl rfl rfl (sp_X7_heldAt_2 (σ := σ) (μ := μ) (d + 2) _ h1) ?_
  refine am_g 3 11 [some (.ref (75 + i)), some (.ref 31), some (.int (am_hat (σ 32) (ln i 1))), some (.int 0), none] [] (hG σ sr ln Lc μ) rfl ?_
  have lp : ∀ (r o : Nat) (pl : Option Value), o + r = 16 → am_R xs LL cd_X0_allow (am_X xs LL (d + 3)) 11 [some (.ref (75 + i)), some (.ref 31), some (.int (am_hat (σ 32) (ln i 1))), some (.int (nI o)), pl] [] (hG (am_up σ 33 (am_it (am_caS (am_kf σ false) (σ 1) (σ 2) (σ 3) (σ 32) (ln i) (am_hat (σ 32) (ln i 1)) n) (σ 33) o)) sr ln Lc μ) none (hG (am_up σ 33 (am_it (am_caS (am_kf σ false) (σ 1) (σ 2) (σ 3) (σ 32) (ln i) (am_hat (σ 32) (ln i 1)) n) (σ 33) 16)) sr ln Lc μ) := by
    intro r
    induction r with
    | zero =>
      intro o pl hi
      have hi2 : o = 16 := by omega
      rw [hi2]
      refine am_g 3 (if 16 ≤ (nI 16) then 113 else 17) [some (.ref (75 + i)), some (.ref 31), some (.int (am_hat (σ 32) (ln i 1))), some (.int (nI 16)), pl] [] (hG (am_up σ 33 (am_it (am_caS (am_kf σ false) (σ 1) (σ 2) (σ 3) (σ 32) (ln i) (am_hat (σ 32) (ln i 1)) n) (σ 33) 16)) sr ln Lc μ) rfl ?_
      rw [if_pos (show 16 ≤ (nI 16) from (am_dle (a := 16) (b := 16) (rfl) (rfl) (by omega) (by omega) (by omega)))]
      exact am_ret2 rfl rfl rfl rfl rfl
    | succ r ih =>
      intro o pl hi
      have hi2 : o < 16 := by omega
      refine am_g 3 (if 16 ≤ (nI o) then 113 else 17) [some (.ref (75 + i)), some (.ref 31), some (.int (am_hat (σ 32) (ln i 1))), some (.int (nI o)), pl] [] (hG (am_up σ 33 (am_it (am_caS (am_kf σ false) (σ 1) (σ 2) (σ 3) (σ 32) (ln i) (am_hat (σ 32) (ln i 1)) n) (σ 33) o)) sr ln Lc μ) rfl ?_
      rw [if_neg (show ¬ 16 ≤ (nI o) from (am_dnle (a := 16) (b := o) (rfl) (rfl) (by omega) (by omega) (by omega)))]
      refine am_g 2 19 [some (.ref (75 + i)), some (.ref 31), some (.int (am_hat (σ 32) (ln i 1))), some (.int (nI o)), pl] [.int (nI o), .int (am_hat (σ 32) (ln i 1))] (hG (am_up σ 33 (am_it (am_caS (am_kf σ false) (σ 1) (σ 2) (σ 3) (σ 32) (ln i) (am_hat (σ 32) (ln i 1)) n) (σ 33) o)) sr ln Lc μ) rfl ?_
      cases e1 : am_hb (am_hat (σ 32) (ln i 1)) o with
      | false =>
        refine am_call (y := 126) (vs := [.int (am_hat (σ 32) (ln i 1)), .int (nI o)]) (rest := []) (v := (some (.int 0))) (h1 := (hG (am_up σ 33 (am_it (am_caS (am_kf σ false) (σ 1) (σ 2) (σ 3) (σ 32) (ln i) (am_hat (σ 32) (ln i 1)) n) (σ 33) o)) sr ln Lc μ)) rfl rfl rfl (sp_X11_hasBit (d + 2) _ _ _ e1) ?_
        refine am_g 8 11 [some (.ref (75 + i)), some (.ref 31), some (.int (am_hat (σ 32) (ln i 1))), some (.int ((nI o) + 1)), some (.int (-1))] [] (hG (am_up σ 33 (am_it (am_caS (am_kf σ false) (σ 1) (σ 2) (σ 3) (σ 32) (ln i) (am_hat (σ 32) (ln i 1)) n) (σ 33) o)) sr ln Lc μ) rfl ?_
        rw [nI_up, ← (show am_it (am_caS (am_kf σ false) (σ 1) (σ 2) (σ 3) (σ 32) (ln i) (am_hat (σ 32) (ln i 1)) n) (σ 33) (o + 1) = (am_it (am_caS (am_kf σ false) (σ 1) (σ 2) (σ 3) (σ 32) (ln i) (am_hat (σ 32) (ln i 1)) n) (σ 33) o) from (by rw [am_itS]; unfold am_caS; rw [e1]; rfl))]
        exact ih (o + 1) _ (by omega)
      | true =>
        refine am_call (y := 126) (vs := [.int (am_hat (σ 32) (ln i 1)), .int (nI o)]) (rest := []) (v := (some (.int 1))) (h1 := (hG (am_up σ 33 (am_it (am_caS (am_kf σ false) (σ 1) (σ 2) (σ 3) (σ 32) (ln i) (am_hat (σ 32) (ln i 1)) n) (σ 33) o)) sr ln Lc μ)) rfl rfl rfl (sp_X11_hasBit (d + 2) _ _ _ e1) ?_
        refine am_g 4 28 [some (.ref (75 + i)), some (.ref 31), some (.int (am_hat (σ 32) (ln i 1))), some (.int (nI o)), pl] [.ref (75 + i), .int (nI o), .ref 31] (hG (am_up σ 33 (am_it (am_caS (am_kf σ false) (σ 1) (σ 2) (σ 3) (σ 32) (ln i) (am_hat (σ 32) (ln i 1)) n) (σ 33) o)) sr ln Lc μ) rfl ?_
        refine am_lgetR (i := i) (k := 2) rfl (by omega) (by decide) (by rw [hs]; exact ⟨_, rfl⟩) ?_
        refine am_call (y := 60) (vs := [.ref 31, .int (nI o), .int (ln i 2)]) (rest := []) (v := (some (.int (am_aimF (σ 1) (σ 2) n 9 (am_kf σ false o))))) (h1 := (hG (am_up σ 33 (am_it (am_caS (am_kf σ false) (σ 1) (σ 2) (σ 3) (σ 32) (ln i) (am_hat (σ 32) (ln i 1)) n) (σ 33) o)) sr ln Lc μ)) rfl rfl rfl (sp_X7_aimOfPoint_v2 (σ := (am_up σ 33 (am_it (am_caS (am_kf σ false) (σ 1) (σ 2) (σ 3) (σ 32) (ln i) (am_hat (σ 32) (ln i 1)) n) (σ 33) o))) (μ := μ) d hab o n _ (hn) (by omega) (by omega) (hok _ h1 o (by omega) e1)) ?_
        refine am_g 5 (if (am_aimF (σ 1) (σ 2) n 9 (am_kf σ false o)) = (-1) then 107 else 46) [some (.ref (75 + i)), some (.ref 31), some (.int (am_hat (σ 32) (ln i 1))), some (.int (nI o)), some (.int (am_aimF (σ 1) (σ 2) n 9 (am_kf σ false o)))] [] (hG (am_up σ 33 (am_it (am_caS (am_kf σ false) (σ 1) (σ 2) (σ 3) (σ 32) (ln i) (am_hat (σ 32) (ln i 1)) n) (σ 33) o)) sr ln Lc μ) rfl (am_brR (fun c2 => ?_) (fun c2 => ?_))
        · skip
          refine am_g 2 11 [some (.ref (75 + i)), some (.ref 31), some (.int (am_hat (σ 32) (ln i 1))), some (.int ((nI o) + 1)), some (.int (am_aimF (σ 1) (σ 2) n 9 (am_kf σ false o)))] [] (hG (am_up σ 33 (am_it (am_caS (am_kf σ false) (σ 1) (σ 2) (σ 3) (σ 32) (ln i) (am_hat (σ 32) (ln i 1)) n) (σ 33) o)) sr ln Lc μ) rfl ?_
          rw [nI_up, ← (show am_it (am_caS (am_kf σ false) (σ 1) (σ 2) (σ 3) (σ 32) (ln i) (am_hat (σ 32) (ln i 1)) n) (σ 33) (o + 1) = (am_it (am_caS (am_kf σ false) (σ 1) (σ 2) (σ 3) (σ 32) (ln i) (am_hat (σ 32) (ln i 1)) n) (σ 33) o) from (by rw [am_itS]; unfold am_caS am_clS; rw [e1, cond_true, if_pos c2]; try rfl))]
          exact ih (o + 1) _ (by omega)
        · skip
          refine am_g 5 54 [some (.ref (75 + i)), some (.ref 31), some (.int (am_hat (σ 32) (ln i 1))), some (.int (nI o)), some (.int (am_aimF (σ 1) (σ 2) n 9 (am_kf σ false o)))] [.int 0, .int (am_aimF (σ 1) (σ 2) n 9 (am_kf σ false o)), .ref 15, .ref 31] (hG (am_up σ 33 (am_it (am_caS (am_kf σ false) (σ 1) (σ 2) (σ 3) (σ 32) (ln i) (am_hat (σ 32) (ln i 1)) n) (σ 33) o)) sr ln Lc μ) rfl ?_
          refine am_call (y := 28) (vs := [.ref 15, .int (am_aimF (σ 1) (σ 2) n 9 (am_kf σ false o)), .int 0]) (rest := [.ref 31]) (v := (some (.int (σ 3 (3 * (am_aimF (σ 1) (σ 2) n 9 (am_kf σ false o)).toNatClampNeg + 0))))) (h1 := (hG (am_up σ 33 (am_it (am_caS (am_kf σ false) (σ 1) (σ 2) (σ 3) (σ 32) (ln i) (am_hat (σ 32) (ln i 1)) n) (σ 33) o)) sr ln Lc μ)) rfl rfl rfl (sp_X3_nameOf_v (σ := (am_up σ 33 (am_it (am_caS (am_kf σ false) (σ 1) (σ 2) (σ 3) (σ 32) (ln i) (am_hat (σ 32) (ln i 1)) n) (σ 33) o))) (μ := μ) (d + 1) _ 0 ((am_aimF_pl hab how (a := n) (by omega) 9 _ (hok _ h1 o (by omega) e1)).resolve_left c2) (by decide)) ?_
          refine am_g 3 60 [some (.ref (75 + i)), some (.ref 31), some (.int (am_hat (σ 32) (ln i 1))), some (.int (nI o)), some (.int (am_aimF (σ 1) (σ 2) n 9 (am_kf σ false o)))] [.int (1 <<< ((nI o) &&& 31)), .int (σ 3 (3 * (am_aimF (σ 1) (σ 2) n 9 (am_kf σ false o)).toNatClampNeg + 0)), .ref 31] (hG (am_up σ 33 (am_it (am_caS (am_kf σ false) (σ 1) (σ 2) (σ 3) (σ 32) (ln i) (am_hat (σ 32) (ln i 1)) n) (σ 33) o)) sr ln Lc μ) rfl ?_
          refine am_call (y := 57) (vs := [.ref 31, .int (σ 3 (3 * (am_aimF (σ 1) (σ 2) n 9 (am_kf σ false o)).toNatClampNeg + 0)), .int (1 <<< ((nI o) &&& 31))]) (rest := []) (v := none) (h1 := (hG (am_up σ 33 (am_add (am_it (am_caS (am_kf σ false) (σ 1) (σ 2) (σ 3) (σ 32) (ln i) (am_hat (σ 32) (ln i 1)) n) (σ 33) o) (σ 3 (3 * (am_aimF (σ 1) (σ 2) n 9 (am_kf σ false o)).toNatClampNeg + 0)) (1 <<< ((nI o) &&& 31)))) sr ln Lc μ)) rfl rfl rfl (sp_X7_add_2 (σ := (am_up σ 33 (am_it (am_caS (am_kf σ false) (σ 1) (σ 2) (σ 3) (σ 32) (ln i) (am_hat (σ 32) (ln i 1)) n) (σ 33) o))) (μ := μ) (d + 2) _ _ (am_pl_mono (hro _ (am_roI ((am_aimF_pl hab how (a := n) (by omega) 9 _ (hok _ h1 o (by omega) e1)).resolve_left c2) (by decide))) (by decide))) ?_
          refine am_g 5 71 [some (.ref (75 + i)), some (.ref 31), some (.int (am_hat (σ 32) (ln i 1))), some (.int (nI o)), some (.int (am_aimF (σ 1) (σ 2) n 9 (am_kf σ false o)))] [.int 1, .int (am_aimF (σ 1) (σ 2) n 9 (am_kf σ false o)), .ref 15, .ref 31] (hG (am_up σ 33 (am_add (am_it (am_caS (am_kf σ false) (σ 1) (σ 2) (σ 3) (σ 32) (ln i) (am_hat (σ 32) (ln i 1)) n) (σ 33) o) (σ 3 (3 * (am_aimF (σ 1) (σ 2) n 9 (am_kf σ false o)).toNatClampNeg + 0)) (1 <<< ((nI o) &&& 31)))) sr ln Lc μ) rfl ?_
          refine am_call (y := 28) (vs := [.ref 15, .int (am_aimF (σ 1) (σ 2) n 9 (am_kf σ false o)), .int 1]) (rest := [.ref 31]) (v := (some (.int (σ 3 (3 * (am_aimF (σ 1) (σ 2) n 9 (am_kf σ false o)).toNatClampNeg + 1))))) (h1 := (hG (am_up σ 33 (am_add (am_it (am_caS (am_kf σ false) (σ 1) (σ 2) (σ 3) (σ 32) (ln i) (am_hat (σ 32) (ln i 1)) n) (σ 33) o) (σ 3 (3 * (am_aimF (σ 1) (σ 2) n 9 (am_kf σ false o)).toNatClampNeg + 0)) (1 <<< ((nI o) &&& 31)))) sr ln Lc μ)) rfl rfl rfl (sp_X3_nameOf_v (σ := (am_up σ 33 (am_add (am_it (am_caS (am_kf σ false) (σ 1) (σ 2) (σ 3) (σ 32) (ln i) (am_hat (σ 32) (ln i 1)) n) (σ 33) o) (σ 3 (3 * (am_aimF (σ 1) (σ 2) n 9 (am_kf σ false o)).toNatClampNeg + 0)) (1 <<< ((nI o) &&& 31))))) (μ := μ) (d + 1) _ 1 ((am_aimF_pl hab how (a := n) (by omega) 9 _ (hok _ h1 o (by omega) e1)).resolve_left c2) (by decide)) ?_
          refine am_g 2 76 [some (.ref (75 + i)), some (.ref 31), some (.int (am_hat (σ 32) (ln i 1))), some (.int (nI o)), some (.int (am_aimF (σ 1) (σ 2) n 9 (am_kf σ false o)))] [.ref (75 + i), .ref 31, .int (σ 3 (3 * (am_aimF (σ 1) (σ 2) n 9 (am_kf σ false o)).toNatClampNeg + 1)), .ref 31] (hG (am_up σ 33 (am_add (am_it (am_caS (am_kf σ false) (σ 1) (σ 2) (σ 3) (σ 32) (ln i) (am_hat (σ 32) (ln i 1)) n) (σ 33) o) (σ 3 (3 * (am_aimF (σ 1) (σ 2) n 9 (am_kf σ false o)).toNatClampNeg + 0)) (1 <<< ((nI o) &&& 31)))) sr ln Lc μ) rfl ?_
          refine am_lget7R (i := i) rfl (by omega) (by rw [hs]; rfl) (by rw [hs]; exact ⟨_, rfl⟩) ?_
          refine am_call (y := 56) (vs := [.ref 31, .int (ln i 7)]) (rest := [.int (σ 3 (3 * (am_aimF (σ 1) (σ 2) n 9 (am_kf σ false o)).toNatClampNeg + 1)), .ref 31]) (v := (some (.int (am_hat (σ 32) (ln i 7))))) (h1 := (hG (am_up σ 33 (am_add (am_it (am_caS (am_kf σ false) (σ 1) (σ 2) (σ 3) (σ 32) (ln i) (am_hat (σ 32) (ln i 1)) n) (σ 33) o) (σ 3 (3 * (am_aimF (σ 1) (σ 2) n 9 (am_kf σ false o)).toNatClampNeg + 0)) (1 <<< ((nI o) &&& 31)))) sr ln Lc μ)) rfl rfl rfl (sp_X7_heldAt_2 (σ := (am_up σ 33 (am_add (am_it (am_caS (am_kf σ false) (σ 1) (σ 2) (σ 3) (σ 32) (ln i) (am_hat (σ 32) (ln i 1)) n) (σ 33) o) (σ 3 (3 * (am_aimF (σ 1) (σ 2) n 9 (am_kf σ false o)).toNatClampNeg + 0)) (1 <<< ((nI o) &&& 31))))) (μ := μ) (d + 2) _ h7) ?_
          refine am_call (y := 57) (vs := [.ref 31, .int (σ 3 (3 * (am_aimF (σ 1) (σ 2) n 9 (am_kf σ false o)).toNatClampNeg + 1)), .int (am_hat (σ 32) (ln i 7))]) (rest := []) (v := none) (h1 := (hG (am_up σ 33 (am_add (am_add (am_it (am_caS (am_kf σ false) (σ 1) (σ 2) (σ 3) (σ 32) (ln i) (am_hat (σ 32) (ln i 1)) n) (σ 33) o) (σ 3 (3 * (am_aimF (σ 1) (σ 2) n 9 (am_kf σ false o)).toNatClampNeg + 0)) (1 <<< ((nI o) &&& 31))) (σ 3 (3 * (am_aimF (σ 1) (σ 2) n 9 (am_kf σ false o)).toNatClampNeg + 1)) (am_hat (σ 32) (ln i 7)))) sr ln Lc μ)) rfl rfl rfl (sp_X7_add_2 (σ := (am_up σ 33 (am_add (am_it (am_caS (am_kf σ false) (σ 1) (σ 2) (σ 3) (σ 32) (ln i) (am_hat (σ 32) (ln i 1)) n) (σ 33) o) (σ 3 (3 * (am_aimF (σ 1) (σ 2) n 9 (am_kf σ false o)).toNatClampNeg + 0)) (1 <<< ((nI o) &&& 31))))) (μ := μ) (d + 2) _ _ (am_pl_mono (hro _ (am_roI ((am_aimF_pl hab how (a := n) (by omega) 9 _ (hok _ h1 o (by omega) e1)).resolve_left c2) (by decide))) (by decide))) ?_
          refine am_g 2 87 [some (.ref (75 + i)), some (.ref 31), some (.int (am_hat (σ 32) (ln i 1))), some (.int (nI o)), some (.int (am_aimF (σ 1) (σ 2) n 9 (am_kf σ false o)))] [.ref (75 + i), .ref 31] (hG (am_up σ 33 (am_add (am_add (am_it (am_caS (am_kf σ false) (σ 1) (σ 2) (σ 3) (σ 32) (ln i) (am_hat (σ 32) (ln i 1)) n) (σ 33) o) (σ 3 (3 * (am_aimF (σ 1) (σ 2) n 9 (am_kf σ false o)).toNatClampNeg + 0)) (1 <<< ((nI o) &&& 31))) (σ 3 (3 * (am_aimF (σ 1) (σ 2) n 9 (am_kf σ false o)).toNatClampNeg + 1)) (am_hat (σ 32) (ln i 7)))) sr ln Lc μ) rfl ?_
          refine am_lgetR (i := i) (k := 0) rfl (by omega) (by decide) (by rw [hs]; exact ⟨_, rfl⟩) ?_
          refine am_g 5 98 [some (.ref (75 + i)), some (.ref 31), some (.int (am_hat (σ 32) (ln i 1))), some (.int (nI o)), some (.int (am_aimF (σ 1) (σ 2) n 9 (am_kf σ false o)))] [.int 2, .int (am_aimF (σ 1) (σ 2) n 9 (am_kf σ false o)), .ref 15, .ref 31, .int (ln i 0), .ref 31] (hG (am_up σ 33 (am_add (am_add (am_it (am_caS (am_kf σ false) (σ 1) (σ 2) (σ 3) (σ 32) (ln i) (am_hat (σ 32) (ln i 1)) n) (σ 33) o) (σ 3 (3 * (am_aimF (σ 1) (σ 2) n 9 (am_kf σ false o)).toNatClampNeg + 0)) (1 <<< ((nI o) &&& 31))) (σ 3 (3 * (am_aimF (σ 1) (σ 2) n 9 (am_kf σ false o)).toNatClampNeg + 1)) (am_hat (σ 32) (ln i 7)))) sr ln Lc μ) rfl ?_
          refine am_call (y := 28) (vs := [.ref 15, .int (am_aimF (σ 1) (σ 2) n 9 (am_kf σ false o)), .int 2]) (rest := [.ref 31, .int (ln i 0), .ref 31]) (v := (some (.int (σ 3 (3 * (am_aimF (σ 1) (σ 2) n 9 (am_kf σ false o)).toNatClampNeg + 2))))) (h1 := (hG (am_up σ 33 (am_add (am_add (am_it (am_caS (am_kf σ false) (σ 1) (σ 2) (σ 3) (σ 32) (ln i) (am_hat (σ 32) (ln i 1)) n) (σ 33) o) (σ 3 (3 * (am_aimF (σ 1) (σ 2) n 9 (am_kf σ false o)).toNatClampNeg + 0)) (1 <<< ((nI o) &&& 31))) (σ 3 (3 * (am_aimF (σ 1) (σ 2) n 9 (am_kf σ false o)).toNatClampNeg + 1)) (am_hat (σ 32) (ln i 7)))) sr ln Lc μ)) rfl rfl rfl (sp_X3_nameOf_v (σ := (am_up σ 33 (am_add (am_add (am_it (am_caS (am_kf σ false) (σ 1) (σ 2) (σ 3) (σ 32) (ln i) (am_hat (σ 32) (ln i 1)) n) (σ 33) o) (σ 3 (3 * (am_aimF (σ 1) (σ 2) n 9 (am_kf σ false o)).toNatClampNeg + 0)) (1 <<< ((nI o) &&& 31))) (σ 3 (3 * (am_aimF (σ 1) (σ 2) n 9 (am_kf σ false o)).toNatClampNeg + 1)) (am_hat (σ 32) (ln i 7))))) (μ := μ) (d + 1) _ 2 ((am_aimF_pl hab how (a := n) (by omega) 9 _ (hok _ h1 o (by omega) e1)).resolve_left c2) (by decide)) ?_
          refine am_call (y := 56) (vs := [.ref 31, .int (σ 3 (3 * (am_aimF (σ 1) (σ 2) n 9 (am_kf σ false o)).toNatClampNeg + 2))]) (rest := [.int (ln i 0), .ref 31]) (v := (some (.int (am_hat (σ 32) (σ 3 (3 * (am_aimF (σ 1) (σ 2) n 9 (am_kf σ false o)).toNatClampNeg + 2)))))) (h1 := (hG (am_up σ 33 (am_add (am_add (am_it (am_caS (am_kf σ false) (σ 1) (σ 2) (σ 3) (σ 32) (ln i) (am_hat (σ 32) (ln i 1)) n) (σ 33) o) (σ 3 (3 * (am_aimF (σ 1) (σ 2) n 9 (am_kf σ false o)).toNatClampNeg + 0)) (1 <<< ((nI o) &&& 31))) (σ 3 (3 * (am_aimF (σ 1) (σ 2) n 9 (am_kf σ false o)).toNatClampNeg + 1)) (am_hat (σ 32) (ln i 7)))) sr ln Lc μ)) rfl rfl rfl (sp_X7_heldAt_2 (σ := (am_up σ 33 (am_add (am_add (am_it (am_caS (am_kf σ false) (σ 1) (σ 2) (σ 3) (σ 32) (ln i) (am_hat (σ 32) (ln i 1)) n) (σ 33) o) (σ 3 (3 * (am_aimF (σ 1) (σ 2) n 9 (am_kf σ false o)).toNatClampNeg + 0)) (1 <<< ((nI o) &&& 31))) (σ 3 (3 * (am_aimF (σ 1) (σ 2) n 9 (am_kf σ false o)).toNatClampNeg + 1)) (am_hat (σ 32) (ln i 7))))) (μ := μ) (d + 2) _ (am_pl_mono (hro _ (am_roI ((am_aimF_pl hab how (a := n) (by omega) 9 _ (hok _ h1 o (by omega) e1)).resolve_left c2) (by decide))) (by decide))) ?_
          refine am_call (y := 57) (vs := [.ref 31, .int (ln i 0), .int (am_hat (σ 32) (σ 3 (3 * (am_aimF (σ 1) (σ 2) n 9 (am_kf σ false o)).toNatClampNeg + 2)))]) (rest := []) (v := none) (h1 := (hG (am_up σ 33 (am_add (am_add (am_add (am_it (am_caS (am_kf σ false) (σ 1) (σ 2) (σ 3) (σ 32) (ln i) (am_hat (σ 32) (ln i 1)) n) (σ 33) o) (σ 3 (3 * (am_aimF (σ 1) (σ 2) n 9 (am_kf σ false o)).toNatClampNeg + 0)) (1 <<< ((nI o) &&& 31))) (σ 3 (3 * (am_aimF (σ 1) (σ 2) n 9 (am_kf σ false o)).toNatClampNeg + 1)) (am_hat (σ 32) (ln i 7))) (ln i 0) (am_hat (σ 32) (σ 3 (3 * (am_aimF (σ 1) (σ 2) n 9 (am_kf σ false o)).toNatClampNeg + 2))))) sr ln Lc μ)) rfl rfl rfl (sp_X7_add_2 (σ := (am_up σ 33 (am_add (am_add (am_it (am_caS (am_kf σ false) (σ 1) (σ 2) (σ 3) (σ 32) (ln i) (am_hat (σ 32) (ln i 1)) n) (σ 33) o) (σ 3 (3 * (am_aimF (σ 1) (σ 2) n 9 (am_kf σ false o)).toNatClampNeg + 0)) (1 <<< ((nI o) &&& 31))) (σ 3 (3 * (am_aimF (σ 1) (σ 2) n 9 (am_kf σ false o)).toNatClampNeg + 1)) (am_hat (σ 32) (ln i 7))))) (μ := μ) (d + 2) _ _ h0) ?_
          refine am_g 2 11 [some (.ref (75 + i)), some (.ref 31), some (.int (am_hat (σ 32) (ln i 1))), some (.int ((nI o) + 1)), some (.int (am_aimF (σ 1) (σ 2) n 9 (am_kf σ false o)))] [] (hG (am_up σ 33 (am_add (am_add (am_add (am_it (am_caS (am_kf σ false) (σ 1) (σ 2) (σ 3) (σ 32) (ln i) (am_hat (σ 32) (ln i 1)) n) (σ 33) o) (σ 3 (3 * (am_aimF (σ 1) (σ 2) n 9 (am_kf σ false o)).toNatClampNeg + 0)) (1 <<< ((nI o) &&& 31))) (σ 3 (3 * (am_aimF (σ 1) (σ 2) n 9 (am_kf σ false o)).toNatClampNeg + 1)) (am_hat (σ 32) (ln i 7))) (ln i 0) (am_hat (σ 32) (σ 3 (3 * (am_aimF (σ 1) (σ 2) n 9 (am_kf σ false o)).toNatClampNeg + 2))))) sr ln Lc μ) rfl ?_
          rw [nI_up, ← (show am_it (am_caS (am_kf σ false) (σ 1) (σ 2) (σ 3) (σ 32) (ln i) (am_hat (σ 32) (ln i 1)) n) (σ 33) (o + 1) = (am_add (am_add (am_add (am_it (am_caS (am_kf σ false) (σ 1) (σ 2) (σ 3) (σ 32) (ln i) (am_hat (σ 32) (ln i 1)) n) (σ 33) o) (σ 3 (3 * (am_aimF (σ 1) (σ 2) n 9 (am_kf σ false o)).toNatClampNeg + 0)) (1 <<< ((nI o) &&& 31))) (σ 3 (3 * (am_aimF (σ 1) (σ 2) n 9 (am_kf σ false o)).toNatClampNeg + 1)) (am_hat (σ 32) (ln i 7))) (ln i 0) (am_hat (σ 32) (σ 3 (3 * (am_aimF (σ 1) (σ 2) n 9 (am_kf σ false o)).toNatClampNeg + 2)))) from (by rw [am_itS]; unfold am_caS am_clS; rw [e1, cond_true, if_neg c2]; try rfl))]
          exact ih (o + 1) _ (by omega)
  exact lp 16 0 none (by omega)
theorem sp_allow_2 (d i : Nat) (hi : i < Lc) (hs : sr i < 6) (hw : am_wl (sr i) (ln i)) (hab : am_wab (σ 1)) (how : ∀ p, p < 24 → am_pl 6 (σ 2 p)) (hro : ∀ p, p < 18 → am_pl 20 (σ 3 p)) (hok : am_okW (am_kf σ false) (σ 32)) : am_X xs LL (d + 4) ([18, 10, 49, 85, 5, 43].getD (sr i) 0) [.ref (75 + i), .ref 31] (hG σ sr ln Lc μ) none (hG (am_up σ 33 (am_alw (am_kf σ false) (σ 1) (σ 2) (σ 3) false (sr i) (ln i) (σ 32) (σ 33))) sr ln Lc μ) := by
  obtain ⟨⟨a, ha, h0⟩, h1, -, -, hn3, -, -, h7, -, -⟩ := hw
  have h0 : am_pl 68 (ln i 0) := Or.inr ⟨a, by omega, h0⟩
  have h1 : am_pl 68 (ln i 1) := am_pl_mono h1 (by decide)
  generalize hq : sr i = s at hs hn3 h7 ⊢
  match s, hs with
  | 0, _ => exact sp_X2_allow_2 (d + 2) i hi hq h0 h1
  | 1, _ => exact sp_X1_allow_2 d i hi hq h0 h1 hab hok
  | 2, _ =>
    obtain ⟨n, hn, e⟩ := hn3 (by decide) (by decide)
    have k := sp_X6_allow_2 (σ := σ) (μ := μ) (xs := xs) (LL := LL) (d + 1) i hi hq e hn h0 h1
    unfold am_alw
    rw [e, nI_clamp (by omega)]
    exact k
  | 3, _ =>
    obtain ⟨n, hn, e⟩ := hn3 (by decide) (by decide)
    have k := sp_X10_allow_2 (σ := σ) (μ := μ) (xs := xs) (LL := LL) (d + 1) i hi hq e hn h0 h1
    unfold am_alw
    rw [e, nI_clamp (by omega)]
    exact k
  | 4, _ =>
    obtain ⟨n, hn, e⟩ := hn3 (by decide) (by decide)
    obtain ⟨z, hz, e7⟩ := h7 rfl
    have k := sp_X0_allow_2 (σ := σ) (μ := μ) (xs := xs) (LL := LL) d i hi hq e hn h0 h1 (Or.inr ⟨z, by omega, e7⟩) hab how hro hok
    unfold am_alw
    rw [e, nI_clamp (by omega)]
    exact k
  | 5, _ => exact sp_X5_allow_2 (d + 2) i hi hq h0
end XA
