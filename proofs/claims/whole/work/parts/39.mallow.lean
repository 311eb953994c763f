/-! the reference: what a line allows -/
section AE
variable {kf ab ow ro f W A : Nat → Int32} {bk : Bool}
theorem am_alw_0 : am_alw kf ab ow ro bk 0 f W A = am_add A (f 0) (am_hat W (f 1)) := rfl
theorem am_alw_1 : am_alw kf ab ow ro bk 1 f W A = am_add A (f 0) (am_orF (am_okF ab kf (am_hat W (f 1)) (f 2)) 16) := rfl
theorem am_alw_2 : am_alw kf ab ow ro bk 2 f W A = am_it (am_rdS W (am_hat W (f 1)) (f 0) (f 2).toNatClampNeg) A 16 := rfl
theorem am_alw_3 : am_alw kf ab ow ro bk 3 f W A = am_it (am_wrS (am_hat W (f 0)) (am_hat W (f 1)) (f 2).toNatClampNeg) A 16 := rfl
theorem am_alw_4 : am_alw kf ab ow ro bk 4 f W A = am_it (am_caS kf ab ow ro W f (am_hat W (f 1)) (f 2).toNatClampNeg) A 16 := rfl
theorem am_alw_5 : am_alw kf ab ow ro bk 5 f W A = am_add A (f 0) (1 <<< ((bif bk then f 2 else f 7) &&& 31)) := rfl
end AE
/-- what class and reference agree on: kinds -/
def am_RK (σ μ : Nat → Nat → Int32) : Prop := μ 1 = σ 1 ∧ μ 2 = σ 2 ∧ (∀ f, f < 6 → μ 4 f = σ 3 (3 * f + 0)) ∧ (∀ f, f < 6 → μ 5 f = σ 3 (3 * f + 1)) ∧ (∀ f, f < 6 → μ 6 f = σ 3 (3 * f + 2)) ∧ ∃ K, K ≤ 8 ∧ μ 3 0 = nI K ∧ σ 5 0 = nI K
/-- lines -/
def am_RL (sr : Nat → Nat) (ln : Nat → Nat → Int32) (Lc : Nat) (μ : Nat → Nat → Int32) : Prop := μ 17 0 = nI Lc ∧ (∀ i, i < Lc → μ 7 i = nI (sr i)) ∧ (∀ i, i < Lc → μ 8 i = ln i 0) ∧ (∀ i, i < Lc → μ 9 i = ln i 1) ∧ (∀ i, i < Lc → μ 10 i = ln i 2) ∧ (∀ i, i < Lc → μ 11 i = if sr i = 4 then ln i 7 else -1) ∧ (∀ i, i < Lc → μ 12 i = ln i 3) ∧ (∀ i, i < Lc → μ 13 i = ln i 4) ∧ (∀ i, i < Lc → μ 14 i = ln i 6) ∧ (∀ i, i < Lc → μ 15 i = ln i 5) ∧ (∀ i, i < Lc → μ 16 i = if sr i = 5 then ln i 7 else -1)
/-- objects -/
def am_RO (σ : Nat → Nat → Int32) (sr : Nat → Nat) (ln : Nat → Nat → Int32) (Lc O : Nat) (μ : Nat → Nat → Int32) : Prop := O ≤ 16 ∧ σ 6 0 = nI O ∧ μ 19 0 = nI O ∧ (∀ o, o < O → ∃ l, l < Lc ∧ μ 18 o = nI l ∧ sr l = 5 ∧ ln l 7 = nI o ∧ σ 4 o = ln l 2) ∧ (∀ l, l < Lc → sr l = 5 → ∃ o, o < O ∧ ln l 7 = nI o ∧ μ 18 o = nI l)
/-- bits below M -/
def am_okM (M : Nat) (W : Nat → Int32) : Prop := ∀ x, am_pl 68 x → ∀ p, p < 16 → am_hb (am_hat W x) p = true → p < M
def am_bM (bk : Bool) (O : Nat) : Nat := bif bk then 8 else O
section MA
variable {xs : Nat → Int32} {LL : Nat} {σ μ : Nat → Nat → Int32} {sr : Nat → Nat} {ln : Nat → Nat → Int32} {Lc O : Nat} {bk : Bool}
theorem am_kf_pl (hwf : am_WF σ sr ln Lc) (hO16 : O ≤ 16) {p : Nat} (h : p < am_bM bk O) : am_pl 8 (am_kf σ bk p) := by
  cases bk with
  | true => exact Or.inr ⟨p, h, rfl⟩
  | false =>
    have h : p < O := h
    exact hwf.2.2.2.1 p (by omega)
theorem am_okW_of (hwf : am_WF σ sr ln Lc) (hO16 : O ≤ 16) {W : Nat → Int32} (h : am_okM (am_bM bk O) W) : am_okW (am_kf σ bk) W := fun x hx p hp hb => am_kf_pl hwf hO16 (h x hx p hp hb)
theorem sp_X12_kindFor (d p : Nat) (hL40 : Lc ≤ 40) (hRO : am_RO σ sr ln Lc O μ) (hRL : am_RL sr ln Lc μ) (hbk : μ 27 0 = am_b2 bk) (h : p < am_bM bk O) : am_X xs LL (d + 2) 166 [.ref 47, .int (nI p)] (hG σ sr ln Lc μ) (some (.int (am_kf σ bk p))) (hG σ sr ln Lc μ) := by
  cases bk with
  | true => exact sp_X12_kindFor_yes d _ (by rw [hbk]; decide)
  | false =>
    have h : p < O := h
    obtain ⟨hO, -, -, h3, -⟩ := hRO
    obtain ⟨l, h1, h2, -, -, h5⟩ := h3 p h
    show am_X xs LL (d + 2) 166 [.ref 47, .int (nI p)] (hG σ sr ln Lc μ) (some (.int (σ 4 p))) (hG σ sr ln Lc μ)
    rw [h5, ← hRL.2.2.2.2.1 l h1]
    exact sp_X12_kindFor_no d p l (by omega) h2 (by omega) hbk
theorem sp_X12_allows_0 (d : Nat) (l : Nat) (hl : l < Lc) (hL40 : Lc ≤ 40) (hRL : am_RL sr ln Lc μ) (hs : sr l = 0) {a : Nat} (ha : a < 20) (h0 : ln l 0 = nI a) {b : Nat} (hb : b < 20) (h1 : ln l 1 = nI b) : am_X xs LL (d + 1) 170 [.ref 47, .int (nI l)] (hG σ sr ln Lc μ) none (hG σ sr ln Lc (am_up μ 25 (upd (μ 25) a ((μ 25 a) ||| (μ 24 b))))) := by
  refine am_XR (d := d + 0) (C := cd_X12_allows) (L := [some (.ref 47), some (.int (nI l)), none]) rfl rfl rfl rfl ?_
  refine am_g 3 5 [some (.ref 47), some (.int (nI l)), none] [.int (nI l), .ref 53] (hG σ sr ln Lc μ) rfl ?_
  refine am_ialdV (n := 40) (f := (μ 7)) (k := l) (w := 0) rfl rfl (rfl) (by omega) (by decide) ((hRL.2.1 l hl).trans (by rw [hs]; rfl)) ?_
  refine am_g 6 49 [some (.ref 47), some (.int (nI l)), none] [.int (nI l), .ref 54, .ref 66] (hG σ sr ln Lc μ) rfl ?_
  refine am_ialdV (n := 40) (f := (μ 8)) (k := l) (w := (nI a)) rfl rfl (rfl) (by omega) (by decide) ((hRL.2.2.1 l hl).trans h0) ?_
  refine am_g 1 51 [some (.ref 47), some (.int (nI l)), none] [.int (nI a), .ref 66, .int (nI a), .ref 66] (hG σ sr ln Lc μ) rfl ?_
  refine am_ialdR (n := 68) (f := (μ 25)) (k := a) rfl rfl (rfl) (by omega) (by decide) ?_
  refine am_g 5 61 [some (.ref 47), some (.int (nI l)), none] [.int (nI l), .ref 55, .ref 65, .int (μ 25 a), .int (nI a), .ref 66] (hG σ sr ln Lc μ) rfl ?_
  refine am_ialdV (n := 40) (f := (μ 9)) (k := l) (w := (nI b)) rfl rfl (rfl) (by omega) (by decide) ((hRL.2.2.2.1 l hl).trans h1) ?_
  refine am_ialdR (n := 68) (f := (μ 24)) (k := b) rfl rfl (rfl) (by omega) (by decide) ?_
  refine am_g 1 64 [some (.ref 47), some (.int (nI l)), none] [.int ((μ 25 a) ||| (μ 24 b)), .int (nI a), .ref 66] (hG σ sr ln Lc μ) rfl ?_
  refine am_iastR (n := 68) (f := (μ 25)) (k := a) (h1 := (hG σ sr ln Lc (am_up μ 25 (upd (μ 25) a ((μ 25 a) ||| (μ 24 b)))))) rfl rfl (rfl) (by omega) (by decide) rfl ?_
  exact am_ret2 rfl rfl rfl rfl rfl
theorem sp_X12_allows_1 (d : Nat) (l : Nat) (hl : l < Lc) (hL40 : Lc ≤ 40) (hRL : am_RL sr ln Lc μ) (hs : sr l = 1) {a : Nat} (ha : a < 20) (h0 : ln l 0 = nI a) {b : Nat} (hb : b < 20) (h1 : ln l 1 = nI b) (hab : am_wab (μ 1)) (hkf : ∀ o, o < 16 → (μ 24 b >>> (nI o &&& 31)) &&& 1 = 1 → (am_kf σ bk o = -1 ∨ ∃ j, j < 8 ∧ am_kf σ bk o = nI j) ∧ ∀ d, am_X xs LL (d + 2) 166 [.ref 47, .int (nI o)] (hG σ sr ln Lc μ) (some (.int (am_kf σ bk o))) (hG σ sr ln Lc μ)) : am_X xs LL (d + 4) 170 [.ref 47, .int (nI l)] (hG σ sr ln Lc μ) none (hG σ sr ln Lc (am_up μ 25 (upd (μ 25) a ((μ 25 a) ||| (am_orF (am_okF (μ 1) (am_kf σ bk) (μ 24 b) (ln l 2)) 16))))) := by
  refine am_XR (d := d + 3) (C := cd_X12_allows) (L := [some (.ref 47), some (.int (nI l)), none]) rfl rfl rfl rfl ?_
  refine am_g 3 5 [some (.ref 47), some (.int (nI l)), none] [.int (nI l), .ref 53] (hG σ sr ln Lc μ) rfl ?_
  refine am_ialdV (n := 40) (f := (μ 7)) (k := l) (w := 1) rfl rfl (rfl) (by omega) (by decide) ((hRL.2.1 l hl).trans (by rw [hs]; rfl)) ?_
  refine am_g 6 75 [some (.ref 47), some (.int (nI l)), none] [.int (nI l), .ref 54, .ref 66] (hG σ sr ln Lc μ) rfl ?_
  refine am_ialdV (n := 40) (f := (μ 8)) (k := l) (w := (nI a)) rfl rfl (rfl) (by omega) (by decide) ((hRL.2.2.1 l hl).trans h0) ?_
  refine am_g 1 77 [some (.ref 47), some (.int (nI l)), none] [.int (nI a), .ref 66, .int (nI a), .ref 66] (hG σ sr ln Lc μ) rfl ?_
  refine am_ialdR (n := 68) (f := (μ 25)) (k := a) rfl rfl (rfl) (by omega) (by decide) ?_
  refine am_g 6 88 [some (.ref 47), some (.int (nI l)), none] [.int (nI l), .ref 55, .ref 65, .ref 47, .int (μ 25 a), .int (nI a), .ref 66] (hG σ sr ln Lc μ) rfl ?_
  refine am_ialdV (n := 40) (f := (μ 9)) (k := l) (w := (nI b)) rfl rfl (rfl) (by omega) (by decide) ((hRL.2.2.2.1 l hl).trans h1) ?_
  refine am_ialdR (n := 68) (f := (μ 24)) (k := b) rfl rfl (rfl) (by omega) (by decide) ?_
  refine am_g 3 95 [some (.ref 47), some (.int (nI l)), none] [.int (nI l), .ref 56, .int (μ 24 b), .ref 47, .int (μ 25 a), .int (nI a), .ref 66] (hG σ sr ln Lc μ) rfl ?_
  refine am_ialdV (n := 40) (f := (μ 10)) (k := l) (w := (ln l 2)) rfl rfl (rfl) (by omega) (by decide) ((hRL.2.2.2.2.1 l hl)) ?_
  refine am_call (y := 168) (vs := [.ref 47, .int (μ 24 b), .int (ln l 2)]) (rest := [.int (μ 25 a), .int (nI a), .ref 66]) (v := (some (.int (am_orF (am_okF (μ 1) (am_kf σ bk) (μ 24 b) (ln l 2)) 16)))) (h1 := (hG σ sr ln Lc μ)) rfl rfl rfl (sp_X12_ofKind d hab _ _ (am_kf σ bk) hkf) ?_
  refine am_g 1 100 [some (.ref 47), some (.int (nI l)), none] [.int ((μ 25 a) ||| (am_orF (am_okF (μ 1) (am_kf σ bk) (μ 24 b) (ln l 2)) 16)), .int (nI a), .ref 66] (hG σ sr ln Lc μ) rfl ?_
  refine am_iastR (n := 68) (f := (μ 25)) (k := a) (h1 := (hG σ sr ln Lc (am_up μ 25 (upd (μ 25) a ((μ 25 a) ||| (am_orF (am_okF (μ 1) (am_kf σ bk) (μ 24 b) (ln l 2)) 16)))))) rfl rfl (rfl) (by omega) (by decide) rfl ?_
  exact am_ret2 rfl rfl rfl rfl rfl
theorem sp_X12_allows_2 (d : Nat) (l : Nat) (hl : l < Lc) (hL40 : Lc ≤ 40) (hRL : am_RL sr ln Lc μ) (hs : sr l = 2) {a : Nat} (ha : a < 20) (h0 : ln l 0 = nI a) {b : Nat} (hb : b < 20) (h1 : ln l 1 = nI b) {n : Nat} (hn3 : n < 3) (hn : ln l 2 = nI n) : am_X xs LL (d + 2) 170 [.ref 47, .int (nI l)] (hG σ sr ln Lc μ) none (hG σ sr ln Lc (am_up μ 25 (am_it (am_rdS (μ 24) (μ 24 b) (nI a) n) (μ 25) 16))) := by
  refine am_XR (d := d + 1) (C := cd_X12_allows) (L := [some (.ref 47), some (.int (nI l)), none]) rfl rfl rfl rfl ?_
  refine am_g 3 5 [some (.ref 47), some (.int (nI l)), none] [.int (nI l), .ref 53] (hG σ sr ln Lc μ) rfl ?_
  refine am_ialdV (n := 40) (f := (μ 7)) (k := l) (w := 2) rfl rfl (rfl) (by omega) (by decide) ((hRL.2.1 l hl).trans (by rw [hs]; rfl)) ?_
  refine am_g 3 104 [some (.ref 47), some (.int (nI l)), some (.int 0)] [] (hG σ sr ln Lc μ) rfl ?_
  have lp : ∀ (r o : Nat), o + r = 16 → am_R xs LL cd_X12_allows (am_X xs LL (d + 1)) 104 [some (.ref 47), some (.int (nI l)), some (.int (nI o))] [] (hG σ sr ln Lc (am_up μ 25 (am_it (am_rdS (μ 24) (μ 24 b) (nI a) n) (μ 25) o))) none (hG σ sr ln Lc (am_up μ 25 (am_it (am_rdS (μ 24) (μ 24 b) (nI a) n) (μ 25) 16))) := by
    intro r
    induction r with
    | zero =>
      intro o  hi
      have hi2 : o = 16 := by omega
      rw [hi2]
      refine am_g 3 (if 16 ≤ (nI 16) then 168 else 110) [some (.ref 47), some (.int (nI l)), some (.int (nI 16))] [] (hG σ sr ln Lc (am_up μ 25 (am_it (am_rdS (μ 24) (μ 24 b) (nI a) n) (μ 25) 16))) rfl ?_
      rw [if_pos (show 16 ≤ (nI 16) from (am_dle (a := 16) (b := 16) (rfl) (rfl) (by omega) (by omega) (by omega)))]
      exact am_ret2 rfl rfl rfl rfl rfl
    | succ r ih =>
      intro o  hi
      have hi2 : o < 16 := by omega
      refine am_g 3 (if 16 ≤ (nI o) then 168 else 110) [some (.ref 47), some (.int (nI l)), some (.int (nI o))] [] (hG σ sr ln Lc (am_up μ 25 (am_it (am_rdS (μ 24) (μ 24 b) (nI a) n) (μ 25) o))) rfl ?_
      rw [if_neg (show ¬ 16 ≤ (nI o) from (am_dnle (a := 16) (b := o) (rfl) (rfl) (by omega) (by omega) (by omega)))]
      refine am_g 5 119 [some (.ref 47), some (.int (nI l)), some (.int (nI o))] [.int (nI l), .ref 54, .ref 66] (hG σ sr ln Lc (am_up μ 25 (am_it (am_rdS (μ 24) (μ 24 b) (nI a) n) (μ 25) o))) rfl ?_
      refine am_ialdV (n := 40) (f := (μ 8)) (k := l) (w := (nI a)) rfl rfl (rfl) (by omega) (by decide) ((hRL.2.2.1 l hl).trans h0) ?_
      refine am_g 1 121 [some (.ref 47), some (.int (nI l)), some (.int (nI o))] [.int (nI a), .ref 66, .int (nI a), .ref 66] (hG σ sr ln Lc (am_up μ 25 (am_it (am_rdS (μ 24) (μ 24 b) (nI a) n) (μ 25) o))) rfl ?_
      refine am_ialdR (n := 68) (f := (am_it (am_rdS (μ 24) (μ 24 b) (nI a) n) (μ 25) o)) (k := a) rfl rfl (rfl) (by omega) (by decide) ?_
      refine am_g 5 131 [some (.ref 47), some (.int (nI l)), some (.int (nI o))] [.int (nI l), .ref 55, .ref 65, .int ((am_it (am_rdS (μ 24) (μ 24 b) (nI a) n) (μ 25) o) a), .int (nI a), .ref 66] (hG σ sr ln Lc (am_up μ 25 (am_it (am_rdS (μ 24) (μ 24 b) (nI a) n) (μ 25) o))) rfl ?_
      refine am_ialdV (n := 40) (f := (μ 9)) (k := l) (w := (nI b)) rfl rfl (rfl) (by omega) (by decide) ((hRL.2.2.2.1 l hl).trans h1) ?_
      refine am_ialdR (n := 68) (f := (μ 24)) (k := b) rfl rfl (rfl) (by omega) (by decide) ?_
      refine am_g 6 (if (((μ 24 b) >>> ((nI o) &&& 31)) &&& 1) = 1 then 141 else 159) [some (.ref 47), some (.int (nI l)), some (.int (nI o))] [.int ((am_it (am_rdS (μ 24) (μ 24 b) (nI a) n) (μ 25) o) a), .int (nI a), .ref 66] (hG σ sr ln Lc (am_up μ 25 (am_it (am_rdS (μ 24) (μ 24 b) (nI a) n) (μ 25) o))) rfl (am_brR (fun c1 => ?_) (fun c1 => ?_))
      · skip
        refine am_g 6 151 [some (.ref 47), some (.int (nI l)), some (.int (nI o))] [.int (nI l), .ref 56, .int (nI o), .ref 65, .int ((am_it (am_rdS (μ 24) (μ 24 b) (nI a) n) (μ 25) o) a), .int (nI a), .ref 66] (hG σ sr ln Lc (am_up μ 25 (am_it (am_rdS (μ 24) (μ 24 b) (nI a) n) (μ 25) o))) rfl ?_
        refine am_ialdV (n := 40) (f := (μ 10)) (k := l) (w := (nI n)) rfl rfl (rfl) (by omega) (by decide) ((hRL.2.2.2.2.1 l hl).trans hn) ?_
        refine am_call (y := 167) (vs := [.int (nI o), .int (nI n)]) (rest := [.ref 65, .int ((am_it (am_rdS (μ 24) (μ 24 b) (nI a) n) (μ 25) o) a), .int (nI a), .ref 66]) (v := (some (.int (nI (20 + 3 * o + n))))) (h1 := (hG σ sr ln Lc (am_up μ 25 (am_it (am_rdS (μ 24) (μ 24 b) (nI a) n) (μ 25) o)))) rfl rfl rfl (sp_X12_fieldAt d _ o n (by omega) (by omega)) ?_
        refine am_ialdR (n := 68) (f := (μ 24)) (k := (20 + 3 * o + n)) rfl rfl (rfl) (by omega) (by decide) ?_
        refine am_g 2 161 [some (.ref 47), some (.int (nI l)), some (.int (nI o))] [.int (((am_it (am_rdS (μ 24) (μ 24 b) (nI a) n) (μ 25) o) a) ||| (μ 24 (20 + 3 * o + n))), .int (nI a), .ref 66] (hG σ sr ln Lc (am_up μ 25 (am_it (am_rdS (μ 24) (μ 24 b) (nI a) n) (μ 25) o))) rfl ?_
        refine am_iastR (n := 68) (f := (am_it (am_rdS (μ 24) (μ 24 b) (nI a) n) (μ 25) o)) (k := a) (h1 := (hG σ sr ln Lc (am_up μ 25 (upd (am_it (am_rdS (μ 24) (μ 24 b) (nI a) n) (μ 25) o) a (((am_it (am_rdS (μ 24) (μ 24 b) (nI a) n) (μ 25) o) a) ||| (μ 24 (20 + 3 * o + n))))))) rfl rfl (rfl) (by omega) (by decide) rfl ?_
        refine am_g 2 104 [some (.ref 47), some (.int (nI l)), some (.int ((nI o) + 1))] [] (hG σ sr ln Lc (am_up μ 25 (upd (am_it (am_rdS (μ 24) (μ 24 b) (nI a) n) (μ 25) o) a (((am_it (am_rdS (μ 24) (μ 24 b) (nI a) n) (μ 25) o) a) ||| (μ 24 (20 + 3 * o + n)))))) rfl ?_
        rw [nI_up, ← (show am_it (am_rdS (μ 24) (μ 24 b) (nI a) n) (μ 25) (o + 1) = (upd (am_it (am_rdS (μ 24) (μ 24 b) (nI a) n) (μ 25) o) a (((am_it (am_rdS (μ 24) (μ 24 b) (nI a) n) (μ 25) o) a) ||| (μ 24 (20 + 3 * o + n)))) from (by rw [am_itS]; unfold am_rdS; rw [show am_hb (μ 24 b) o = true from decide_eq_true c1, cond_true, am_add_nI (by omega), am_hat_nI (by omega)]))]
        exact ih (o + 1) (by omega)
      · skip
        refine am_g 2 161 [some (.ref 47), some (.int (nI l)), some (.int (nI o))] [.int (((am_it (am_rdS (μ 24) (μ 24 b) (nI a) n) (μ 25) o) a) ||| 0), .int (nI a), .ref 66] (hG σ sr ln Lc (am_up μ 25 (am_it (am_rdS (μ 24) (μ 24 b) (nI a) n) (μ 25) o))) rfl ?_
        refine am_iastR (n := 68) (f := (am_it (am_rdS (μ 24) (μ 24 b) (nI a) n) (μ 25) o)) (k := a) (h1 := (hG σ sr ln Lc (am_up μ 25 (upd (am_it (am_rdS (μ 24) (μ 24 b) (nI a) n) (μ 25) o) a (((am_it (am_rdS (μ 24) (μ 24 b) (nI a) n) (μ 25) o) a) ||| 0))))) rfl rfl (rfl) (by omega) (by decide) rfl ?_
        refine am_g 2 104 [some (.ref 47), some (.int (nI l)), some (.int ((nI o) + 1))] [] (hG σ sr ln Lc (am_up μ 25 (upd (am_it (am_rdS (μ 24) (μ 24 b) (nI a) n) (μ 25) o) a (((am_it (am_rdS (μ 24) (μ 24 b) (nI a) n) (μ 25) o) a) ||| 0)))) rfl ?_
        rw [nI_up, ← (show am_it (am_rdS (μ 24) (μ 24 b) (nI a) n) (μ 25) (o + 1) = (upd (am_it (am_rdS (μ 24) (μ 24 b) (nI a) n) (μ 25) o) a (((am_it (am_rdS (μ 24) (μ 24 b) (nI a) n) (μ 25) o) a) ||| 0)) from (by rw [am_itS]; unfold am_rdS; rw [show am_hb (μ 24 b) o = false from decide_eq_false c1, cond_false, am_or0, am_upd_id]))]
        exact ih (o + 1) (by omega)
  exact lp 16 0 (by omega)
theorem sp_X12_allows_3 (d : Nat) (l : Nat) (hl : l < Lc) (hL40 : Lc ≤ 40) (hRL : am_RL sr ln Lc μ) (hs : sr l = 3) {a : Nat} (ha : a < 20) (h0 : ln l 0 = nI a) {b : Nat} (hb : b < 20) (h1 : ln l 1 = nI b) {n : Nat} (hn3 : n < 3) (hn : ln l 2 = nI n) : am_X xs LL (d + 2) 170 [.ref 47, .int (nI l)] (hG σ sr ln Lc μ) none (hG σ sr ln Lc (am_up μ 25 (am_it (am_wrS (μ 24 a) (μ 24 b) n) (μ 25) 16))) := by
  refine am_XR (d := d + 1) (C := cd_X12_allows) (L := [some (.ref 47), some (.int (nI l)), none]) rfl rfl rfl rfl ?_
  refine am_g 3 5 [some (.ref 47), some (.int (nI l)), none] [.int (nI l), .ref 53] (hG σ sr ln Lc μ) rfl ?_
  refine am_ialdV (n := 40) (f := (μ 7)) (k := l) (w := 3) rfl rfl (rfl) (by omega) (by decide) ((hRL.2.1 l hl).trans (by rw [hs]; rfl)) ?_
  refine am_g 3 171 [some (.ref 47), some (.int (nI l)), some (.int 0)] [] (hG σ sr ln Lc μ) rfl ?_
  have lp : ∀ (r o : Nat), o + r = 16 → am_R xs LL cd_X12_allows (am_X xs LL (d + 1)) 171 [some (.ref 47), some (.int (nI l)), some (.int (nI o))] [] (hG σ sr ln Lc (am_up μ 25 (am_it (am_wrS (μ 24 a) (μ 24 b) n) (μ 25) o))) none (hG σ sr ln Lc (am_up μ 25 (am_it (am_wrS (μ 24 a) (μ 24 b) n) (μ 25) 16))) := by
    intro r
    induction r with
    | zero =>
      intro o  hi
      have hi2 : o = 16 := by omega
      rw [hi2]
      refine am_g 3 (if 16 ≤ (nI 16) then 235 else 177) [some (.ref 47), some (.int (nI l)), some (.int (nI 16))] [] (hG σ sr ln Lc (am_up μ 25 (am_it (am_wrS (μ 24 a) (μ 24 b) n) (μ 25) 16))) rfl ?_
      rw [if_pos (show 16 ≤ (nI 16) from (am_dle (a := 16) (b := 16) (rfl) (rfl) (by omega) (by omega) (by omega)))]
      exact am_ret2 rfl rfl rfl rfl rfl
    | succ r ih =>
      intro o  hi
      have hi2 : o < 16 := by omega
      refine am_g 3 (if 16 ≤ (nI o) then 235 else 177) [some (.ref 47), some (.int (nI l)), some (.int (nI o))] [] (hG σ sr ln Lc (am_up μ 25 (am_it (am_wrS (μ 24 a) (μ 24 b) n) (μ 25) o))) rfl ?_
      rw [if_neg (show ¬ 16 ≤ (nI o) from (am_dnle (a := 16) (b := o) (rfl) (rfl) (by omega) (by omega) (by omega)))]
      refine am_g 6 187 [some (.ref 47), some (.int (nI l)), some (.int (nI o))] [.int (nI l), .ref 56, .int (nI o), .ref 66] (hG σ sr ln Lc (am_up μ 25 (am_it (am_wrS (μ 24 a) (μ 24 b) n) (μ 25) o))) rfl ?_
      refine am_ialdV (n := 40) (f := (μ 10)) (k := l) (w := (nI n)) rfl rfl (rfl) (by omega) (by decide) ((hRL.2.2.2.2.1 l hl).trans hn) ?_
      refine am_call (y := 167) (vs := [.int (nI o), .int (nI n)]) (rest := [.ref 66]) (v := (some (.int (nI (20 + 3 * o + n))))) (h1 := (hG σ sr ln Lc (am_up μ 25 (am_it (am_wrS (μ 24 a) (μ 24 b) n) (μ 25) o)))) rfl rfl rfl (sp_X12_fieldAt d _ o n (by omega) (by omega)) ?_
      refine am_g 1 192 [some (.ref 47), some (.int (nI l)), some (.int (nI o))] [.int (nI (20 + 3 * o + n)), .ref 66, .int (nI (20 + 3 * o + n)), .ref 66] (hG σ sr ln Lc (am_up μ 25 (am_it (am_wrS (μ 24 a) (μ 24 b) n) (μ 25) o))) rfl ?_
      refine am_ialdR (n := 68) (f := (am_it (am_wrS (μ 24 a) (μ 24 b) n) (μ 25) o)) (k := (20 + 3 * o + n)) rfl rfl (rfl) (by omega) (by decide) ?_
      refine am_g 5 202 [some (.ref 47), some (.int (nI l)), some (.int (nI o))] [.int (nI l), .ref 54, .ref 65, .int ((am_it (am_wrS (μ 24 a) (μ 24 b) n) (μ 25) o) (20 + 3 * o + n)), .int (nI (20 + 3 * o + n)), .ref 66] (hG σ sr ln Lc (am_up μ 25 (am_it (am_wrS (μ 24 a) (μ 24 b) n) (μ 25) o))) rfl ?_
      refine am_ialdV (n := 40) (f := (μ 8)) (k := l) (w := (nI a)) rfl rfl (rfl) (by omega) (by decide) ((hRL.2.2.1 l hl).trans h0) ?_
      refine am_ialdR (n := 68) (f := (μ 24)) (k := a) rfl rfl (rfl) (by omega) (by decide) ?_
      refine am_g 6 (if (((μ 24 a) >>> ((nI o) &&& 31)) &&& 1) = 1 then 212 else 226) [some (.ref 47), some (.int (nI l)), some (.int (nI o))] [.int ((am_it (am_wrS (μ 24 a) (μ 24 b) n) (μ 25) o) (20 + 3 * o + n)), .int (nI (20 + 3 * o + n)), .ref 66] (hG σ sr ln Lc (am_up μ 25 (am_it (am_wrS (μ 24 a) (μ 24 b) n) (μ 25) o))) rfl (am_brR (fun c1 => ?_) (fun c1 => ?_))
      · skip
        refine am_g 5 221 [some (.ref 47), some (.int (nI l)), some (.int (nI o))] [.int (nI l), .ref 55, .ref 65, .int ((am_it (am_wrS (μ 24 a) (μ 24 b) n) (μ 25) o) (20 + 3 * o + n)), .int (nI (20 + 3 * o + n)), .ref 66] (hG σ sr ln Lc (am_up μ 25 (am_it (am_wrS (μ 24 a) (μ 24 b) n) (μ 25) o))) rfl ?_
        refine am_ialdV (n := 40) (f := (μ 9)) (k := l) (w := (nI b)) rfl rfl (rfl) (by omega) (by decide) ((hRL.2.2.2.1 l hl).trans h1) ?_
        refine am_ialdR (n := 68) (f := (μ 24)) (k := b) rfl rfl (rfl) (by omega) (by decide) ?_
        refine am_g 2 228 [some (.ref 47), some (.int (nI l)), some (.int (nI o))] [.int (((am_it (am_wrS (μ 24 a) (μ 24 b) n) (μ 25) o) (20 + 3 * o + n)) ||| (μ 24 b)), .int (nI (20 + 3 * o + n)), .ref 66] (hG σ sr ln Lc (am_up μ 25 (am_it (am_wrS (μ 24 a) (μ 24 b) n) (μ 25) o))) rfl ?_
        refine am_iastR (n := 68) (f := (am_it (am_wrS (μ 24 a) (μ 24 b) n) (μ 25) o)) (k := (20 + 3 * o + n)) (h1 := (hG σ sr ln Lc (am_up μ 25 (upd (am_it (am_wrS (μ 24 a) (μ 24 b) n) (μ 25) o) (20 + 3 * o + n) (((am_it (am_wrS (μ 24 a) (μ 24 b) n) (μ 25) o) (20 + 3 * o + n)) ||| (μ 24 b)))))) rfl rfl (rfl) (by omega) (by decide) rfl ?_
        refine am_g 2 171 [some (.ref 47), some (.int (nI l)), some (.int ((nI o) + 1))] [] (hG σ sr ln Lc (am_up μ 25 (upd (am_it (am_wrS (μ 24 a) (μ 24 b) n) (μ 25) o) (20 + 3 * o + n) (((am_it (am_wrS (μ 24 a) (μ 24 b) n) (μ 25) o) (20 + 3 * o + n)) ||| (μ 24 b))))) rfl ?_
        rw [nI_up, ← (show am_it (am_wrS (μ 24 a) (μ 24 b) n) (μ 25) (o + 1) = (upd (am_it (am_wrS (μ 24 a) (μ 24 b) n) (μ 25) o) (20 + 3 * o + n) (((am_it (am_wrS (μ 24 a) (μ 24 b) n) (μ 25) o) (20 + 3 * o + n)) ||| (μ 24 b))) from (by rw [am_itS]; unfold am_wrS; rw [show am_hb (μ 24 a) o = true from decide_eq_true c1, cond_true, am_add_nI (by omega)]))]
        exact ih (o + 1) (by omega)
      · skip
        refine am_g 2 228 [some (.ref 47), some (.int (nI l)), some (.int (nI o))] [.int (((am_it (am_wrS (μ 24 a) (μ 24 b) n) (μ 25) o) (20 + 3 * o + n)) ||| 0), .int (nI (20 + 3 * o + n)), .ref 66] (hG σ sr ln Lc (am_up μ 25 (am_it (am_wrS (μ 24 a) (μ 24 b) n) (μ 25) o))) rfl ?_
        refine am_iastR (n := 68) (f := (am_it (am_wrS (μ 24 a) (μ 24 b) n) (μ 25) o)) (k := (20 + 3 * o + n)) (h1 := (hG σ sr ln Lc (am_up μ 25 (upd (am_it (am_wrS (μ 24 a) (μ 24 b) n) (μ 25) o) (20 + 3 * o + n) (((am_it (am_wrS (μ 24 a) (μ 24 b) n) (μ 25) o) (20 + 3 * o + n)) ||| 0))))) rfl rfl (rfl) (by omega) (by decide) rfl ?_
        refine am_g 2 171 [some (.ref 47), some (.int (nI l)), some (.int ((nI o) + 1))] [] (hG σ sr ln Lc (am_up μ 25 (upd (am_it (am_wrS (μ 24 a) (μ 24 b) n) (μ 25) o) (20 + 3 * o + n) (((am_it (am_wrS (μ 24 a) (μ 24 b) n) (μ 25) o) (20 + 3 * o + n)) ||| 0)))) rfl ?_
        rw [nI_up, ← (show am_it (am_wrS (μ 24 a) (μ 24 b) n) (μ 25) (o + 1) = (upd (am_it (am_wrS (μ 24 a) (μ 24 b) n) (μ 25) o) (20 + 3 * o + n) (((am_it (am_wrS (μ 24 a) (μ 24 b) n) (μ 25) o) (20 + 3 * o + n)) ||| 0)) from (by rw [am_itS]; unfold am_wrS; rw [show am_hb (μ 24 a) o = false from decide_eq_false c1, cond_false, am_or0, am_upd_id]))]
        exact ih (o + 1) (by omega)
  exact lp 16 0 (by omega)
theorem sp_X12_aimOf_s (d : Nat) (e1 : μ 1 = σ 1) (e2 : μ 2 = σ 2) (hab : am_wab (σ 1)) (kk : Int32) (a : Nat) (hk : am_pl 8 kk) (ha : a < 3) : am_X xs LL (d + 1) 147 [.ref 47, .int kk, .int (nI a)] (hG σ sr ln Lc μ) (some (.int (am_aimF (σ 1) (σ 2) a 9 kk))) (hG σ sr ln Lc μ) := by
  rw [← e1] at hab
  rw [← e1, ← e2]
  exact sp_X12_aimOf d hab kk a hk ha
theorem sp_X12_calls (d : Nat) (l : Nat) (hl : l < Lc) (hL40 : Lc ≤ 40) (hRL : am_RL sr ln Lc μ) (hs : sr l = 4) {a : Nat} (ha : a < 20) (h0 : ln l 0 = nI a) {b : Nat} (hb : b < 20) (h1 : ln l 1 = nI b) {n : Nat} (hn3 : n < 3) (hn : ln l 2 = nI n) {z : Nat} (hz : z < 20) (h7 : ln l 7 = nI z) (hwf : am_WF σ sr ln Lc) (hRK : am_RK σ μ) (hRO : am_RO σ sr ln Lc O μ) (hbk : μ 27 0 = am_b2 bk) (hok : ∀ p, p < 16 → am_hb (μ 24 b) p = true → p < am_bM bk O) : am_X xs LL (d + 3) 169 [.ref 47, .int (nI l)] (hG σ sr ln Lc μ) none (hG σ sr ln Lc (am_up μ 25 (am_it (am_caS (am_kf σ bk) (σ 1) (σ 2) (σ 3) (μ 24) (ln l) (μ 24 b) n) (μ 25) 16))) := by
  refine am_XR (d := d + 2) (C := cd_X12_calls) (L := [some (.ref 47), some (.int (nI l)), none, none]) rfl rfl rfl rfl ?_
  refine am_g 2 2 [some (.ref 47), some (.int (nI l)), some (.int 0), none] [] (hG σ sr ln Lc μ) rfl ?_
  have lp : ∀ (r o : Nat) (w : Option Value), o + r = 16 → am_R xs LL cd_X12_calls (am_X xs LL (d + 2)) 2 [some (.ref 47), some (.int (nI l)), some (.int (nI o)), w] [] (hG σ sr ln Lc (am_up μ 25 (am_it (am_caS (am_kf σ bk) (σ 1) (σ 2) (σ 3) (μ 24) (ln l) (μ 24 b) n) (μ 25) o))) none (hG σ sr ln Lc (am_up μ 25 (am_it (am_caS (am_kf σ bk) (σ 1) (σ 2) (σ 3) (μ 24) (ln l) (μ 24 b) n) (μ 25) 16))) := by
    intro r
    induction r with
    | zero =>
      intro o w hi
      have hi2 : o = 16 := by omega
      rw [hi2]
      refine am_g 3 (if 16 ≤ (nI 16) then 158 else 8) [some (.ref 47), some (.int (nI l)), some (.int (nI 16)), w] [] (hG σ sr ln Lc (am_up μ 25 (am_it (am_caS (am_kf σ bk) (σ 1) (σ 2) (σ 3) (μ 24) (ln l) (μ 24 b) n) (μ 25) 16))) rfl ?_
      rw [if_pos (show 16 ≤ (nI 16) from (am_dle (a := 16) (b := 16) (rfl) (rfl) (by omega) (by omega) (by omega)))]
      exact am_ret2 rfl rfl rfl rfl rfl
    | succ r ih =>
      intro o w hi
      have hi2 : o < 16 := by omega
      refine am_g 3 (if 16 ≤ (nI o) then 158 else 8) [some (.ref 47), some (.int (nI l)), some (.int (nI o)), w] [] (hG σ sr ln Lc (am_up μ 25 (am_it (am_caS (am_kf σ bk) (σ 1) (σ 2) (σ 3) (μ 24) (ln l) (μ 24 b) n) (μ 25) o))) rfl ?_
      rw [if_neg (show ¬ 16 ≤ (nI o) from (am_dnle (a := 16) (b := o) (rfl) (rfl) (by omega) (by omega) (by omega)))]
      refine am_g 5 17 [some (.ref 47), some (.int (nI l)), some (.int (nI o)), w] [.int (nI l), .ref 55, .ref 65] (hG σ sr ln Lc (am_up μ 25 (am_it (am_caS (am_kf σ bk) (σ 1) (σ 2) (σ 3) (μ 24) (ln l) (μ 24 b) n) (μ 25) o))) rfl ?_
      refine am_ialdV (n := 40) (f := (μ 9)) (k := l) (w := (nI b)) rfl rfl (rfl) (by omega) (by decide) ((hRL.2.2.2.1 l hl).trans h1) ?_
      refine am_ialdR (n := 68) (f := (μ 24)) (k := b) rfl rfl (rfl) (by omega) (by decide) ?_
      refine am_g 6 (if (((μ 24 b) >>> ((nI o) &&& 31)) &&& 1) = 1 then 27 else 45) [some (.ref 47), some (.int (nI l)), some (.int (nI o)), w] [] (hG σ sr ln Lc (am_up μ 25 (am_it (am_caS (am_kf σ bk) (σ 1) (σ 2) (σ 3) (μ 24) (ln l) (μ 24 b) n) (μ 25) o))) rfl (am_brR (fun c1 => ?_) (fun c1 => ?_))
      · skip
        refine am_g 3 30 [some (.ref 47), some (.int (nI l)), some (.int (nI o)), w] [.int (nI o), .ref 47, .ref 47] (hG σ sr ln Lc (am_up μ 25 (am_it (am_caS (am_kf σ bk) (σ 1) (σ 2) (σ 3) (μ 24) (ln l) (μ 24 b) n) (μ 25) o))) rfl ?_
        refine am_call (y := 166) (vs := [.ref 47, .int (nI o)]) (rest := [.ref 47]) (v := (some (.int (am_kf σ bk o)))) (h1 := (hG σ sr ln Lc (am_up μ 25 (am_it (am_caS (am_kf σ bk) (σ 1) (σ 2) (σ 3) (μ 24) (ln l) (μ 24 b) n) (μ 25) o)))) rfl rfl rfl (sp_X12_kindFor (σ := σ) (μ := (am_up μ 25 (am_it (am_caS (am_kf σ bk) (σ 1) (σ 2) (σ 3) (μ 24) (ln l) (μ 24 b) n) (μ 25) o))) d o hL40 hRO hRL hbk (hok o (by omega) (decide_eq_true c1))) ?_
        refine am_g 3 38 [some (.ref 47), some (.int (nI l)), some (.int (nI o)), w] [.int (nI l), .ref 56, .int (am_kf σ bk o), .ref 47] (hG σ sr ln Lc (am_up μ 25 (am_it (am_caS (am_kf σ bk) (σ 1) (σ 2) (σ 3) (μ 24) (ln l) (μ 24 b) n) (μ 25) o))) rfl ?_
        refine am_ialdV (n := 40) (f := (μ 10)) (k := l) (w := (nI n)) rfl rfl (rfl) (by omega) (by decide) ((hRL.2.2.2.2.1 l hl).trans hn) ?_
        refine am_call (y := 147) (vs := [.ref 47, .int (am_kf σ bk o), .int (nI n)]) (rest := []) (v := (some (.int (am_aimF (σ 1) (σ 2) n 9 (am_kf σ bk o))))) (h1 := (hG σ sr ln Lc (am_up μ 25 (am_it (am_caS (am_kf σ bk) (σ 1) (σ 2) (σ 3) (μ 24) (ln l) (μ 24 b) n) (μ 25) o)))) rfl rfl rfl (sp_X12_aimOf_s (σ := σ) (μ := (am_up μ 25 (am_it (am_caS (am_kf σ bk) (σ 1) (σ 2) (σ 3) (μ 24) (ln l) (μ 24 b) n) (μ 25) o))) (d + 1) hRK.1 hRK.2.1 hwf.1 _ n (am_kf_pl hwf hRO.1 (hok o (by omega) (decide_eq_true c1))) hn3) ?_
        refine am_g 5 (if (am_aimF (σ 1) (σ 2) n 9 (am_kf σ bk o)) = (-1) then 52 else 55) [some (.ref 47), some (.int (nI l)), some (.int (nI o)), some (.int (am_aimF (σ 1) (σ 2) n 9 (am_kf σ bk o)))] [] (hG σ sr ln Lc (am_up μ 25 (am_it (am_caS (am_kf σ bk) (σ 1) (σ 2) (σ 3) (μ 24) (ln l) (μ 24 b) n) (μ 25) o))) rfl (am_brR (fun c2 => ?_) (fun c2 => ?_))
        · skip
          refine am_g 3 2 [some (.ref 47), some (.int (nI l)), some (.int ((nI o) + 1)), some (.int (am_aimF (σ 1) (σ 2) n 9 (am_kf σ bk o)))] [] (hG σ sr ln Lc (am_up μ 25 (am_it (am_caS (am_kf σ bk) (σ 1) (σ 2) (σ 3) (μ 24) (ln l) (μ 24 b) n) (μ 25) o))) rfl ?_
          rw [nI_up, ← (show am_it (am_caS (am_kf σ bk) (σ 1) (σ 2) (σ 3) (μ 24) (ln l) (μ 24 b) n) (μ 25) (o + 1) = (am_it (am_caS (am_kf σ bk) (σ 1) (σ 2) (σ 3) (μ 24) (ln l) (μ 24 b) n) (μ 25) o) from (by rw [am_itS]; unfold am_caS am_clS; rw [show am_hb (μ 24 b) o = true from decide_eq_true c1, cond_true, if_pos c2]))]
          exact ih (o + 1) _ (by omega)
        · skip
          obtain ⟨q, hq, hg⟩ := (am_aimF_pl hwf.1 hwf.2.1 hn3 9 _ (am_kf_pl (bk := bk) hwf hRO.1 (hok o (by omega) (decide_eq_true c1)))).resolve_left c2
          refine am_g 3 60 [some (.ref 47), some (.int (nI l)), some (.int (nI o)), some (.int (am_aimF (σ 1) (σ 2) n 9 (am_kf σ bk o)))] [.int (am_aimF (σ 1) (σ 2) n 9 (am_kf σ bk o)), .ref 50] (hG σ sr ln Lc (am_up μ 25 (am_it (am_caS (am_kf σ bk) (σ 1) (σ 2) (σ 3) (μ 24) (ln l) (μ 24 b) n) (μ 25) o))) rfl ?_
          refine am_ialdV (n := 6) (f := (μ 4)) (k := q) (w := (σ 3 (3 * q + 0))) rfl rfl (hg) (by omega) (by decide) (hRK.2.2.1 q hq) ?_
          refine am_g 2 (if (σ 3 (3 * q + 0)) = (-1) then 82 else 65) [some (.ref 47), some (.int (nI l)), some (.int (nI o)), some (.int (am_aimF (σ 1) (σ 2) n 9 (am_kf σ bk o)))] [] (hG σ sr ln Lc (am_up μ 25 (am_it (am_caS (am_kf σ bk) (σ 1) (σ 2) (σ 3) (μ 24) (ln l) (μ 24 b) n) (μ 25) o))) rfl (am_brR (fun c3 => ?_) (fun c3 => ?_))
          · skip
            refine am_g 3 87 [some (.ref 47), some (.int (nI l)), some (.int (nI o)), some (.int (am_aimF (σ 1) (σ 2) n 9 (am_kf σ bk o)))] [.int (am_aimF (σ 1) (σ 2) n 9 (am_kf σ bk o)), .ref 51] (hG σ sr ln Lc (am_up μ 25 (am_it (am_caS (am_kf σ bk) (σ 1) (σ 2) (σ 3) (μ 24) (ln l) (μ 24 b) n) (μ 25) o))) rfl ?_
            refine am_ialdV (n := 6) (f := (μ 5)) (k := q) (w := (σ 3 (3 * q + 1))) rfl rfl (hg) (by omega) (by decide) (hRK.2.2.2.1 q hq) ?_
            refine am_g 2 (if (σ 3 (3 * q + 1)) = (-1) then 117 else 92) [some (.ref 47), some (.int (nI l)), some (.int (nI o)), some (.int (am_aimF (σ 1) (σ 2) n 9 (am_kf σ bk o)))] [] (hG σ sr ln Lc (am_up μ 25 (am_it (am_caS (am_kf σ bk) (σ 1) (σ 2) (σ 3) (μ 24) (ln l) (μ 24 b) n) (μ 25) o))) rfl (am_brR (fun c4 => ?_) (fun c4 => ?_))
            · skip
              refine am_g 3 122 [some (.ref 47), some (.int (nI l)), some (.int (nI o)), some (.int (am_aimF (σ 1) (σ 2) n 9 (am_kf σ bk o)))] [.int (am_aimF (σ 1) (σ 2) n 9 (am_kf σ bk o)), .ref 52] (hG σ sr ln Lc (am_up μ 25 (am_it (am_caS (am_kf σ bk) (σ 1) (σ 2) (σ 3) (μ 24) (ln l) (μ 24 b) n) (μ 25) o))) rfl ?_
              refine am_ialdV (n := 6) (f := (μ 6)) (k := q) (w := (σ 3 (3 * q + 2))) rfl rfl (hg) (by omega) (by decide) (hRK.2.2.2.2.1 q hq) ?_
              refine am_g 2 (if (σ 3 (3 * q + 2)) = (-1) then 152 else 127) [some (.ref 47), some (.int (nI l)), some (.int (nI o)), some (.int (am_aimF (σ 1) (σ 2) n 9 (am_kf σ bk o)))] [] (hG σ sr ln Lc (am_up μ 25 (am_it (am_caS (am_kf σ bk) (σ 1) (σ 2) (σ 3) (μ 24) (ln l) (μ 24 b) n) (μ 25) o))) rfl (am_brR (fun c5 => ?_) (fun c5 => ?_))
              · skip
                refine am_g 2 2 [some (.ref 47), some (.int (nI l)), some (.int ((nI o) + 1)), some (.int (am_aimF (σ 1) (σ 2) n 9 (am_kf σ bk o)))] [] (hG σ sr ln Lc (am_up μ 25 (am_it (am_caS (am_kf σ bk) (σ 1) (σ 2) (σ 3) (μ 24) (ln l) (μ 24 b) n) (μ 25) o))) rfl ?_
                rw [nI_up, ← (show am_it (am_caS (am_kf σ bk) (σ 1) (σ 2) (σ 3) (μ 24) (ln l) (μ 24 b) n) (μ 25) (o + 1) = (am_it (am_caS (am_kf σ bk) (σ 1) (σ 2) (σ 3) (μ 24) (ln l) (μ 24 b) n) (μ 25) o) from (by rw [am_itS]; unfold am_caS am_clS; rw [show am_hb (μ 24 b) o = true from decide_eq_true c1, cond_true, if_neg c2, hg, nI_clamp (show q < 2 ^ 31 by omega), c3, am_add_no, c4, am_add_no, c5, am_hat_no, h0, am_add_nI (show a < 2 ^ 31 by omega), am_or0, am_upd_id]))]
                exact ih (o + 1) _ (by omega)
              · skip
                obtain ⟨s2, hs2, es2⟩ := (hwf.2.2.1 (3 * q + 2) (by omega)).resolve_left c5
                refine am_g 5 136 [some (.ref 47), some (.int (nI l)), some (.int (nI o)), some (.int (am_aimF (σ 1) (σ 2) n 9 (am_kf σ bk o)))] [.int (nI l), .ref 54, .ref 66] (hG σ sr ln Lc (am_up μ 25 (am_it (am_caS (am_kf σ bk) (σ 1) (σ 2) (σ 3) (μ 24) (ln l) (μ 24 b) n) (μ 25) o))) rfl ?_
                refine am_ialdV (n := 40) (f := (μ 8)) (k := l) (w := (nI a)) rfl rfl (rfl) (by omega) (by decide) ((hRL.2.2.1 l hl).trans h0) ?_
                refine am_g 1 138 [some (.ref 47), some (.int (nI l)), some (.int (nI o)), some (.int (am_aimF (σ 1) (σ 2) n 9 (am_kf σ bk o)))] [.int (nI a), .ref 66, .int (nI a), .ref 66] (hG σ sr ln Lc (am_up μ 25 (am_it (am_caS (am_kf σ bk) (σ 1) (σ 2) (σ 3) (μ 24) (ln l) (μ 24 b) n) (μ 25) o))) rfl ?_
                refine am_ialdR (n := 68) (f := (am_it (am_caS (am_kf σ bk) (σ 1) (σ 2) (σ 3) (μ 24) (ln l) (μ 24 b) n) (μ 25) o)) (k := a) rfl rfl (rfl) (by omega) (by decide) ?_
                refine am_g 5 148 [some (.ref 47), some (.int (nI l)), some (.int (nI o)), some (.int (am_aimF (σ 1) (σ 2) n 9 (am_kf σ bk o)))] [.int (am_aimF (σ 1) (σ 2) n 9 (am_kf σ bk o)), .ref 52, .ref 65, .int ((am_it (am_caS (am_kf σ bk) (σ 1) (σ 2) (σ 3) (μ 24) (ln l) (μ 24 b) n) (μ 25) o) a), .int (nI a), .ref 66] (hG σ sr ln Lc (am_up μ 25 (am_it (am_caS (am_kf σ bk) (σ 1) (σ 2) (σ 3) (μ 24) (ln l) (μ 24 b) n) (μ 25) o))) rfl ?_
                refine am_ialdV (n := 6) (f := (μ 6)) (k := q) (w := (σ 3 (3 * q + 2))) rfl rfl (hg) (by omega) (by decide) (hRK.2.2.2.2.1 q hq) ?_
                refine am_ialdR (n := 68) (f := (μ 24)) (k := s2) rfl rfl (es2) (by omega) (by decide) ?_
                refine am_g 1 151 [some (.ref 47), some (.int (nI l)), some (.int (nI o)), some (.int (am_aimF (σ 1) (σ 2) n 9 (am_kf σ bk o)))] [.int (((am_it (am_caS (am_kf σ bk) (σ 1) (σ 2) (σ 3) (μ 24) (ln l) (μ 24 b) n) (μ 25) o) a) ||| (μ 24 s2)), .int (nI a), .ref 66] (hG σ sr ln Lc (am_up μ 25 (am_it (am_caS (am_kf σ bk) (σ 1) (σ 2) (σ 3) (μ 24) (ln l) (μ 24 b) n) (μ 25) o))) rfl ?_
                refine am_iastR (n := 68) (f := (am_it (am_caS (am_kf σ bk) (σ 1) (σ 2) (σ 3) (μ 24) (ln l) (μ 24 b) n) (μ 25) o)) (k := a) (h1 := (hG σ sr ln Lc (am_up μ 25 (upd (am_it (am_caS (am_kf σ bk) (σ 1) (σ 2) (σ 3) (μ 24) (ln l) (μ 24 b) n) (μ 25) o) a (((am_it (am_caS (am_kf σ bk) (σ 1) (σ 2) (σ 3) (μ 24) (ln l) (μ 24 b) n) (μ 25) o) a) ||| (μ 24 s2)))))) rfl rfl (rfl) (by omega) (by decide) rfl ?_
                refine am_g 2 2 [some (.ref 47), some (.int (nI l)), some (.int ((nI o) + 1)), some (.int (am_aimF (σ 1) (σ 2) n 9 (am_kf σ bk o)))] [] (hG σ sr ln Lc (am_up μ 25 (upd (am_it (am_caS (am_kf σ bk) (σ 1) (σ 2) (σ 3) (μ 24) (ln l) (μ 24 b) n) (μ 25) o) a (((am_it (am_caS (am_kf σ bk) (σ 1) (σ 2) (σ 3) (μ 24) (ln l) (μ 24 b) n) (μ 25) o) a) ||| (μ 24 s2))))) rfl ?_
                rw [nI_up, ← (show am_it (am_caS (am_kf σ bk) (σ 1) (σ 2) (σ 3) (μ 24) (ln l) (μ 24 b) n) (μ 25) (o + 1) = (upd (am_it (am_caS (am_kf σ bk) (σ 1) (σ 2) (σ 3) (μ 24) (ln l) (μ 24 b) n) (μ 25) o) a (((am_it (am_caS (am_kf σ bk) (σ 1) (σ 2) (σ 3) (μ 24) (ln l) (μ 24 b) n) (μ 25) o) a) ||| (μ 24 s2))) from (by rw [am_itS]; unfold am_caS am_clS; rw [show am_hb (μ 24 b) o = true from decide_eq_true c1, cond_true, if_neg c2, hg, nI_clamp (show q < 2 ^ 31 by omega), c3, am_add_no, c4, am_add_no, es2, am_hat_nI (show s2 < 2 ^ 31 by omega), h0, am_add_nI (show a < 2 ^ 31 by omega)]))]
                exact ih (o + 1) _ (by omega)
            · skip
              obtain ⟨s1, hs1, es1⟩ := (hwf.2.2.1 (3 * q + 1) (by omega)).resolve_left c4
              refine am_g 5 101 [some (.ref 47), some (.int (nI l)), some (.int (nI o)), some (.int (am_aimF (σ 1) (σ 2) n 9 (am_kf σ bk o)))] [.int (am_aimF (σ 1) (σ 2) n 9 (am_kf σ bk o)), .ref 51, .ref 66] (hG σ sr ln Lc (am_up μ 25 (am_it (am_caS (am_kf σ bk) (σ 1) (σ 2) (σ 3) (μ 24) (ln l) (μ 24 b) n) (μ 25) o))) rfl ?_
              refine am_ialdV (n := 6) (f := (μ 5)) (k := q) (w := (σ 3 (3 * q + 1))) rfl rfl (hg) (by omega) (by decide) (hRK.2.2.2.1 q hq) ?_
              refine am_g 1 103 [some (.ref 47), some (.int (nI l)), some (.int (nI o)), some (.int (am_aimF (σ 1) (σ 2) n 9 (am_kf σ bk o)))] [.int (σ 3 (3 * q + 1)), .ref 66, .int (σ 3 (3 * q + 1)), .ref 66] (hG σ sr ln Lc (am_up μ 25 (am_it (am_caS (am_kf σ bk) (σ 1) (σ 2) (σ 3) (μ 24) (ln l) (μ 24 b) n) (μ 25) o))) rfl ?_
              refine am_ialdR (n := 68) (f := (am_it (am_caS (am_kf σ bk) (σ 1) (σ 2) (σ 3) (μ 24) (ln l) (μ 24 b) n) (μ 25) o)) (k := s1) rfl rfl (es1) (by omega) (by decide) ?_
              refine am_g 5 113 [some (.ref 47), some (.int (nI l)), some (.int (nI o)), some (.int (am_aimF (σ 1) (σ 2) n 9 (am_kf σ bk o)))] [.int (nI l), .ref 57, .ref 65, .int ((am_it (am_caS (am_kf σ bk) (σ 1) (σ 2) (σ 3) (μ 24) (ln l) (μ 24 b) n) (μ 25) o) s1), .int (σ 3 (3 * q + 1)), .ref 66] (hG σ sr ln Lc (am_up μ 25 (am_it (am_caS (am_kf σ bk) (σ 1) (σ 2) (σ 3) (μ 24) (ln l) (μ 24 b) n) (μ 25) o))) rfl ?_
              refine am_ialdV (n := 40) (f := (μ 11)) (k := l) (w := (nI z)) rfl rfl (rfl) (by omega) (by decide) (((hRL.2.2.2.2.2.1 l hl).trans (if_pos hs)).trans h7) ?_
              refine am_ialdR (n := 68) (f := (μ 24)) (k := z) rfl rfl (rfl) (by omega) (by decide) ?_
              refine am_g 1 116 [some (.ref 47), some (.int (nI l)), some (.int (nI o)), some (.int (am_aimF (σ 1) (σ 2) n 9 (am_kf σ bk o)))] [.int (((am_it (am_caS (am_kf σ bk) (σ 1) (σ 2) (σ 3) (μ 24) (ln l) (μ 24 b) n) (μ 25) o) s1) ||| (μ 24 z)), .int (σ 3 (3 * q + 1)), .ref 66] (hG σ sr ln Lc (am_up μ 25 (am_it (am_caS (am_kf σ bk) (σ 1) (σ 2) (σ 3) (μ 24) (ln l) (μ 24 b) n) (μ 25) o))) rfl ?_
              refine am_iastR (n := 68) (f := (am_it (am_caS (am_kf σ bk) (σ 1) (σ 2) (σ 3) (μ 24) (ln l) (μ 24 b) n) (μ 25) o)) (k := s1) (h1 := (hG σ sr ln Lc (am_up μ 25 (upd (am_it (am_caS (am_kf σ bk) (σ 1) (σ 2) (σ 3) (μ 24) (ln l) (μ 24 b) n) (μ 25) o) s1 (((am_it (am_caS (am_kf σ bk) (σ 1) (σ 2) (σ 3) (μ 24) (ln l) (μ 24 b) n) (μ 25) o) s1) ||| (μ 24 z)))))) rfl rfl (es1) (by omega) (by decide) rfl ?_
              refine am_g 3 122 [some (.ref 47), some (.int (nI l)), some (.int (nI o)), some (.int (am_aimF (σ 1) (σ 2) n 9 (am_kf σ bk o)))] [.int (am_aimF (σ 1) (σ 2) n 9 (am_kf σ bk o)), .ref 52] (hG σ sr ln Lc (am_up μ 25 (upd (am_it (am_caS (am_kf σ bk) (σ 1) (σ 2) (σ 3) (μ 24) (ln l) (μ 24 b) n) (μ 25) o) s1 (((am_it (am_caS (am_kf σ bk) (σ 1) (σ 2) (σ 3) (μ 24) (ln l) (μ 24 b) n) (μ 25) o) s1) ||| (μ 24 z))))) rfl ?_
              refine am_ialdV (n := 6) (f := (μ 6)) (k := q) (w := (σ 3 (3 * q + 2))) rfl rfl (hg) (by omega) (by decide) (hRK.2.2.2.2.1 q hq) ?_
              refine am_g 2 (if (σ 3 (3 * q + 2)) = (-1) then 152 else 127) [some (.ref 47), some (.int (nI l)), some (.int (nI o)), some (.int (am_aimF (σ 1) (σ 2) n 9 (am_kf σ bk o)))] [] (hG σ sr ln Lc (am_up μ 25 (upd (am_it (am_caS (am_kf σ bk) (σ 1) (σ 2) (σ 3) (μ 24) (ln l) (μ 24 b) n) (μ 25) o) s1 (((am_it (am_caS (am_kf σ bk) (σ 1) (σ 2) (σ 3) (μ 24) (ln l) (μ 24 b) n) (μ 25) o) s1) ||| (μ 24 z))))) rfl (am_brR (fun c6 => ?_) (fun c6 => ?_))
              · skip
                refine am_g 2 2 [some (.ref 47), some (.int (nI l)), some (.int ((nI o) + 1)), some (.int (am_aimF (σ 1) (σ 2) n 9 (am_kf σ bk o)))] [] (hG σ sr ln Lc (am_up μ 25 (upd (am_it (am_caS (am_kf σ bk) (σ 1) (σ 2) (σ 3) (μ 24) (ln l) (μ 24 b) n) (μ 25) o) s1 (((am_it (am_caS (am_kf σ bk) (σ 1) (σ 2) (σ 3) (μ 24) (ln l) (μ 24 b) n) (μ 25) o) s1) ||| (μ 24 z))))) rfl ?_
                rw [nI_up, ← (show am_it (am_caS (am_kf σ bk) (σ 1) (σ 2) (σ 3) (μ 24) (ln l) (μ 24 b) n) (μ 25) (o + 1) = (upd (am_it (am_caS (am_kf σ bk) (σ 1) (σ 2) (σ 3) (μ 24) (ln l) (μ 24 b) n) (μ 25) o) s1 (((am_it (am_caS (am_kf σ bk) (σ 1) (σ 2) (σ 3) (μ 24) (ln l) (μ 24 b) n) (μ 25) o) s1) ||| (μ 24 z))) from (by rw [am_itS]; unfold am_caS am_clS; rw [show am_hb (μ 24 b) o = true from decide_eq_true c1, cond_true, if_neg c2, hg, nI_clamp (show q < 2 ^ 31 by omega), c3, am_add_no, es1, am_add_nI (show s1 < 2 ^ 31 by omega), h7, am_hat_nI (show z < 2 ^ 31 by omega), c6, am_hat_no, h0, am_add_nI (show a < 2 ^ 31 by omega), am_or0, am_upd_id]))]
                exact ih (o + 1) _ (by omega)
              · skip
                obtain ⟨s2, hs2, es2⟩ := (hwf.2.2.1 (3 * q + 2) (by omega)).resolve_left c6
                refine am_g 5 136 [some (.ref 47), some (.int (nI l)), some (.int (nI o)), some (.int (am_aimF (σ 1) (σ 2) n 9 (am_kf σ bk o)))] [.int (nI l), .ref 54, .ref 66] (hG σ sr ln Lc (am_up μ 25 (upd (am_it (am_caS (am_kf σ bk) (σ 1) (σ 2) (σ 3) (μ 24) (ln l) (μ 24 b) n) (μ 25) o) s1 (((am_it (am_caS (am_kf σ bk) (σ 1) (σ 2) (σ 3) (μ 24) (ln l) (μ 24 b) n) (μ 25) o) s1) ||| (μ 24 z))))) rfl ?_
                refine am_ialdV (n := 40) (f := (μ 8)) (k := l) (w := (nI a)) rfl rfl (rfl) (by omega) (by decide) ((hRL.2.2.1 l hl).trans h0) ?_
                refine am_g 1 138 [some (.ref 47), some (.int (nI l)), some (.int (nI o)), some (.int (am_aimF (σ 1) (σ 2) n 9 (am_kf σ bk o)))] [.int (nI a), .ref 66, .int (nI a), .ref 66] (hG σ sr ln Lc (am_up μ 25 (upd (am_it (am_caS (am_kf σ bk) (σ 1) (σ 2) (σ 3) (μ 24) (ln l) (μ 24 b) n) (μ 25) o) s1 (((am_it (am_caS (am_kf σ bk) (σ 1) (σ 2) (σ 3) (μ 24) (ln l) (μ 24 b) n) (μ 25) o) s1) ||| (μ 24 z))))) rfl ?_
                refine am_ialdR (n := 68) (f := (upd (am_it (am_caS (am_kf σ bk) (σ 1) (σ 2) (σ 3) (μ 24) (ln l) (μ 24 b) n) (μ 25) o) s1 (((am_it (am_caS (am_kf σ bk) (σ 1) (σ 2) (σ 3) (μ 24) (ln l) (μ 24 b) n) (μ 25) o) s1) ||| (μ 24 z)))) (k := a) rfl rfl (rfl) (by omega) (by decide) ?_
                refine am_g 5 148 [some (.ref 47), some (.int (nI l)), some (.int (nI o)), some (.int (am_aimF (σ 1) (σ 2) n 9 (am_kf σ bk o)))] [.int (am_aimF (σ 1) (σ 2) n 9 (am_kf σ bk o)), .ref 52, .ref 65, .int ((upd (am_it (am_caS (am_kf σ bk) (σ 1) (σ 2) (σ 3) (μ 24) (ln l) (μ 24 b) n) (μ 25) o) s1 (((am_it (am_caS (am_kf σ bk) (σ 1) (σ 2) (σ 3) (μ 24) (ln l) (μ 24 b) n) (μ 25) o) s1) ||| (μ 24 z))) a), .int (nI a), .ref 66] (hG σ sr ln Lc (am_up μ 25 (upd (am_it (am_caS (am_kf σ bk) (σ 1) (σ 2) (σ 3) (μ 24) (ln l) (μ 24 b) n) (μ 25) o) s1 (((am_it (am_caS (am_kf σ bk) (σ 1) (σ 2) (σ 3) (μ 24) (ln l) (μ 24 b) n) (μ 25) o) s1) ||| (μ 24 z))))) rfl ?_
                refine am_ialdV (n := 6) (f := (μ 6)) (k := q) (w := (σ 3 (3 * q + 2))) rfl rfl (hg) (by omega) (by decide) (hRK.2.2.2.2.1 q hq) ?_
                refine am_ialdR (n := 68) (f := (μ 24)) (k := s2) rfl rfl (es2) (by omega) (by decide) ?_
                refine am_g 1 151 [some (.ref 47), some (.int (nI l)), some (.int (nI o)), some (.int (am_aimF (σ 1) (σ 2) n 9 (am_kf σ bk o)))] [.int (((upd (am_it (am_caS (am_kf σ bk) (σ 1) (σ 2) (σ 3) (μ 24) (ln l) (μ 24 b) n) (μ 25) o) s1 (((am_it (am_caS (am_kf σ bk) (σ 1) (σ 2) (σ 3) (μ 24) (ln l) (μ 24 b) n) (μ 25) o) s1) ||| (μ 24 z))) a) ||| (μ 24 s2)), .int (nI a), .ref 66] (hG σ sr ln Lc (am_up μ 25 (upd (am_it (am_caS (am_kf σ bk) (σ 1) (σ 2) (σ 3) (μ 24) (ln l) (μ 24 b) n) (μ 25) o) s1 (((am_it (am_caS (am_kf σ bk) (σ 1) (σ 2) (σ 3) (μ 24) (ln l) (μ 24 b) n) (μ 25) o) s1) ||| (μ 24 z))))) rfl ?_
                refine am_iastR (n := 68) (f := (upd (am_it (am_caS (am_kf σ bk) (σ 1) (σ 2) (σ 3) (μ 24) (ln l) (μ 24 b) n) (μ 25) o) s1 (((am_it (am_caS (am_kf σ bk) (σ 1) (σ 2) (σ 3) (μ 24) (ln l) (μ 24 b) n) (μ 25) o) s1) ||| (μ 24 z)))) (k := a) (h1 := (hG σ sr ln Lc (am_up μ 25 (upd (upd (am_it (am_caS (am_kf σ bk) (σ 1) (σ 2) (σ 3) (μ 24) (ln l) (μ 24 b) n) (μ 25) o) s1 (((am_it (am_caS (am_kf σ bk) (σ 1) (σ 2) (σ 3) (μ 24) (ln l) (μ 24 b) n) (μ 25) o) s1) ||| (μ 24 z))) a (((upd (am_it (am_caS (am_kf σ bk) (σ 1) (σ 2) (σ 3) (μ 24) (ln l) (μ 24 b) n) (μ 25) o) s1 (((am_it (am_caS (am_kf σ bk) (σ 1) (σ 2) (σ 3) (μ 24) (ln l) (μ 24 b) n) (μ 25) o) s1) ||| (μ 24 z))) a) ||| (μ 24 s2)))))) rfl rfl (rfl) (by omega) (by decide) rfl ?_
                refine am_g 2 2 [some (.ref 47), some (.int (nI l)), some (.int ((nI o) + 1)), some (.int (am_aimF (σ 1) (σ 2) n 9 (am_kf σ bk o)))] [] (hG σ sr ln Lc (am_up μ 25 (upd (upd (am_it (am_caS (am_kf σ bk) (σ 1) (σ 2) (σ 3) (μ 24) (ln l) (μ 24 b) n) (μ 25) o) s1 (((am_it (am_caS (am_kf σ bk) (σ 1) (σ 2) (σ 3) (μ 24) (ln l) (μ 24 b) n) (μ 25) o) s1) ||| (μ 24 z))) a (((upd (am_it (am_caS (am_kf σ bk) (σ 1) (σ 2) (σ 3) (μ 24) (ln l) (μ 24 b) n) (μ 25) o) s1 (((am_it (am_caS (am_kf σ bk) (σ 1) (σ 2) (σ 3) (μ 24) (ln l) (μ 24 b) n) (μ 25) o) s1) ||| (μ 24 z))) a) ||| (μ 24 s2))))) rfl ?_
                rw [nI_up, ← (show am_it (am_caS (am_kf σ bk) (σ 1) (σ 2) (σ 3) (μ 24) (ln l) (μ 24 b) n) (μ 25) (o + 1) = (upd (upd (am_it (am_caS (am_kf σ bk) (σ 1) (σ 2) (σ 3) (μ 24) (ln l) (μ 24 b) n) (μ 25) o) s1 (((am_it (am_caS (am_kf σ bk) (σ 1) (σ 2) (σ 3) (μ 24) (ln l) (μ 24 b) n) (μ 25) o) s1) ||| (μ 24 z))) a (((upd (am_it (am_caS (am_kf σ bk) (σ 1) (σ 2) (σ 3) (μ 24) (ln l) (μ 24 b) n) (μ 25) o) s1 (((am_it (am_caS (am_kf σ bk) (σ 1) (σ 2) (σ 3) (μ 24) (ln l) (μ 24 b) n) (μ 25) o) s1) ||| (μ 24 z))) a) ||| (μ 24 s2))) from (by rw [am_itS]; unfold am_caS am_clS; rw [show am_hb (μ 24 b) o = true from decide_eq_true c1, cond_true, if_neg c2, hg, nI_clamp (show q < 2 ^ 31 by omega), c3, am_add_no, es1, am_add_nI (show s1 < 2 ^ 31 by omega), h7, am_hat_nI (show z < 2 ^ 31 by omega), es2, am_hat_nI (show s2 < 2 ^ 31 by omega), h0, am_add_nI (show a < 2 ^ 31 by omega)]))]
                exact ih (o + 1) _ (by omega)
          · skip
            obtain ⟨s0, hs0, es0⟩ := (hwf.2.2.1 (3 * q + 0) (by omega)).resolve_left c3
            refine am_g 5 74 [some (.ref 47), some (.int (nI l)), some (.int (nI o)), some (.int (am_aimF (σ 1) (σ 2) n 9 (am_kf σ bk o)))] [.int (am_aimF (σ 1) (σ 2) n 9 (am_kf σ bk o)), .ref 50, .ref 66] (hG σ sr ln Lc (am_up μ 25 (am_it (am_caS (am_kf σ bk) (σ 1) (σ 2) (σ 3) (μ 24) (ln l) (μ 24 b) n) (μ 25) o))) rfl ?_
            refine am_ialdV (n := 6) (f := (μ 4)) (k := q) (w := (σ 3 (3 * q + 0))) rfl rfl (hg) (by omega) (by decide) (hRK.2.2.1 q hq) ?_
            refine am_g 1 76 [some (.ref 47), some (.int (nI l)), some (.int (nI o)), some (.int (am_aimF (σ 1) (σ 2) n 9 (am_kf σ bk o)))] [.int (σ 3 (3 * q + 0)), .ref 66, .int (σ 3 (3 * q + 0)), .ref 66] (hG σ sr ln Lc (am_up μ 25 (am_it (am_caS (am_kf σ bk) (σ 1) (σ 2) (σ 3) (μ 24) (ln l) (μ 24 b) n) (μ 25) o))) rfl ?_
            refine am_ialdR (n := 68) (f := (am_it (am_caS (am_kf σ bk) (σ 1) (σ 2) (σ 3) (μ 24) (ln l) (μ 24 b) n) (μ 25) o)) (k := s0) rfl rfl (es0) (by omega) (by decide) ?_
            refine am_g 4 81 [some (.ref 47), some (.int (nI l)), some (.int (nI o)), some (.int (am_aimF (σ 1) (σ 2) n 9 (am_kf σ bk o)))] [.int (((am_it (am_caS (am_kf σ bk) (σ 1) (σ 2) (σ 3) (μ 24) (ln l) (μ 24 b) n) (μ 25) o) s0) ||| (1 <<< ((nI o) &&& 31))), .int (σ 3 (3 * q + 0)), .ref 66] (hG σ sr ln Lc (am_up μ 25 (am_it (am_caS (am_kf σ bk) (σ 1) (σ 2) (σ 3) (μ 24) (ln l) (μ 24 b) n) (μ 25) o))) rfl ?_
            refine am_iastR (n := 68) (f := (am_it (am_caS (am_kf σ bk) (σ 1) (σ 2) (σ 3) (μ 24) (ln l) (μ 24 b) n) (μ 25) o)) (k := s0) (h1 := (hG σ sr ln Lc (am_up μ 25 (upd (am_it (am_caS (am_kf σ bk) (σ 1) (σ 2) (σ 3) (μ 24) (ln l) (μ 24 b) n) (μ 25) o) s0 (((am_it (am_caS (am_kf σ bk) (σ 1) (σ 2) (σ 3) (μ 24) (ln l) (μ 24 b) n) (μ 25) o) s0) ||| (1 <<< ((nI o) &&& 31))))))) rfl rfl (es0) (by omega) (by decide) rfl ?_
            refine am_g 3 87 [some (.ref 47), some (.int (nI l)), some (.int (nI o)), some (.int (am_aimF (σ 1) (σ 2) n 9 (am_kf σ bk o)))] [.int (am_aimF (σ 1) (σ 2) n 9 (am_kf σ bk o)), .ref 51] (hG σ sr ln Lc (am_up μ 25 (upd (am_it (am_caS (am_kf σ bk) (σ 1) (σ 2) (σ 3) (μ 24) (ln l) (μ 24 b) n) (μ 25) o) s0 (((am_it (am_caS (am_kf σ bk) (σ 1) (σ 2) (σ 3) (μ 24) (ln l) (μ 24 b) n) (μ 25) o) s0) ||| (1 <<< ((nI o) &&& 31)))))) rfl ?_
            refine am_ialdV (n := 6) (f := (μ 5)) (k := q) (w := (σ 3 (3 * q + 1))) rfl rfl (hg) (by omega) (by decide) (hRK.2.2.2.1 q hq) ?_
            refine am_g 2 (if (σ 3 (3 * q + 1)) = (-1) then 117 else 92) [some (.ref 47), some (.int (nI l)), some (.int (nI o)), some (.int (am_aimF (σ 1) (σ 2) n 9 (am_kf σ bk o)))] [] (hG σ sr ln Lc (am_up μ 25 (upd (am_it (am_caS (am_kf σ bk) (σ 1) (σ 2) (σ 3) (μ 24) (ln l) (μ 24 b) n) (μ 25) o) s0 (((am_it (am_caS (am_kf σ bk) (σ 1) (σ 2) (σ 3) (μ 24) (ln l) (μ 24 b) n) (μ 25) o) s0) ||| (1 <<< ((nI o) &&& 31)))))) rfl (am_brR (fun c7 => ?_) (fun c7 => ?_))
            · skip
              refine am_g 3 122 [some (.ref 47), some (.int (nI l)), some (.int (nI o)), some (.int (am_aimF (σ 1) (σ 2) n 9 (am_kf σ bk o)))] [.int (am_aimF (σ 1) (σ 2) n 9 (am_kf σ bk o)), .ref 52] (hG σ sr ln Lc (am_up μ 25 (upd (am_it (am_caS (am_kf σ bk) (σ 1) (σ 2) (σ 3) (μ 24) (ln l) (μ 24 b) n) (μ 25) o) s0 (((am_it (am_caS (am_kf σ bk) (σ 1) (σ 2) (σ 3) (μ 24) (ln l) (μ 24 b) n) (μ 25) o) s0) ||| (1 <<< ((nI o) &&& 31)))))) rfl ?_
              refine am_ialdV (n := 6) (f := (μ 6)) (k := q) (w := (σ 3 (3 * q + 2))) rfl rfl (hg) (by omega) (by decide) (hRK.2.2.2.2.1 q hq) ?_
              refine am_g 2 (if (σ 3 (3 * q + 2)) = (-1) then 152 else 127) [some (.ref 47), some (.int (nI l)), some (.int (nI o)), some (.int (am_aimF (σ 1) (σ 2) n 9 (am_kf σ bk o)))] [] (hG σ sr ln Lc (am_up μ 25 (upd (am_it (am_caS (am_kf σ bk) (σ 1) (σ 2) (σ 3) (μ 24) (ln l) (μ 24 b) n) (μ 25) o) s0 (((am_it (am_caS (am_kf σ bk) (σ 1) (σ 2) (σ 3) (μ 24) (ln l) (μ 24 b) n) (μ 25) o) s0) ||| (1 <<< ((nI o) &&& 31)))))) rfl (am_brR (fun c8 => ?_) (fun c8 => ?_))
              · skip
                refine am_g 2 2 [some (.ref 47), some (.int (nI l)), some (.int ((nI o) + 1)), some (.int (am_aimF (σ 1) (σ 2) n 9 (am_kf σ bk o)))] [] (hG σ sr ln Lc (am_up μ 25 (upd (am_it (am_caS (am_kf σ bk) (σ 1) (σ 2) (σ 3) (μ 24) (ln l) (μ 24 b) n) (μ 25) o) s0 (((am_it (am_caS (am_kf σ bk) (σ 1) (σ 2) (σ 3) (μ 24) (ln l) (μ 24 b) n) (μ 25) o) s0) ||| (1 <<< ((nI o) &&& 31)))))) rfl ?_
                rw [nI_up, ← (show am_it (am_caS (am_kf σ bk) (σ 1) (σ 2) (σ 3) (μ 24) (ln l) (μ 24 b) n) (μ 25) (o + 1) = (upd (am_it (am_caS (am_kf σ bk) (σ 1) (σ 2) (σ 3) (μ 24) (ln l) (μ 24 b) n) (μ 25) o) s0 (((am_it (am_caS (am_kf σ bk) (σ 1) (σ 2) (σ 3) (μ 24) (ln l) (μ 24 b) n) (μ 25) o) s0) ||| (1 <<< ((nI o) &&& 31)))) from (by rw [am_itS]; unfold am_caS am_clS; rw [show am_hb (μ 24 b) o = true from decide_eq_true c1, cond_true, if_neg c2, hg, nI_clamp (show q < 2 ^ 31 by omega), es0, am_add_nI (show s0 < 2 ^ 31 by omega), c7, am_add_no, c8, am_hat_no, h0, am_add_nI (show a < 2 ^ 31 by omega), am_or0, am_upd_id]))]
                exact ih (o + 1) _ (by omega)
              · skip
                obtain ⟨s2, hs2, es2⟩ := (hwf.2.2.1 (3 * q + 2) (by omega)).resolve_left c8
                refine am_g 5 136 [some (.ref 47), some (.int (nI l)), some (.int (nI o)), some (.int (am_aimF (σ 1) (σ 2) n 9 (am_kf σ bk o)))] [.int (nI l), .ref 54, .ref 66] (hG σ sr ln Lc (am_up μ 25 (upd (am_it (am_caS (am_kf σ bk) (σ 1) (σ 2) (σ 3) (μ 24) (ln l) (μ 24 b) n) (μ 25) o) s0 (((am_it (am_caS (am_kf σ bk) (σ 1) (σ 2) (σ 3) (μ 24) (ln l) (μ 24 b) n) (μ 25) o) s0) ||| (1 <<< ((nI o) &&& 31)))))) rfl ?_
                refine am_ialdV (n := 40) (f := (μ 8)) (k := l) (w := (nI a)) rfl rfl (rfl) (by omega) (by decide) ((hRL.2.2.1 l hl).trans h0) ?_
                refine am_g 1 138 [some (.ref 47), some (.int (nI l)), some (.int (nI o)), some (.int (am_aimF (σ 1) (σ 2) n 9 (am_kf σ bk o)))] [.int (nI a), .ref 66, .int (nI a), .ref 66] (hG σ sr ln Lc (am_up μ 25 (upd (am_it (am_caS (am_kf σ bk) (σ 1) (σ 2) (σ 3) (μ 24) (ln l) (μ 24 b) n) (μ 25) o) s0 (((am_it (am_caS (am_kf σ bk) (σ 1) (σ 2) (σ 3) (μ 24) (ln l) (μ 24 b) n) (μ 25) o) s0) ||| (1 <<< ((nI o) &&& 31)))))) rfl ?_
                refine am_ialdR (n := 68) (f := (upd (am_it (am_caS (am_kf σ bk) (σ 1) (σ 2) (σ 3) (μ 24) (ln l) (μ 24 b) n) (μ 25) o) s0 (((am_it (am_caS (am_kf σ bk) (σ 1) (σ 2) (σ 3) (μ 24) (ln l) (μ 24 b) n) (μ 25) o) s0) ||| (1 <<< ((nI o) &&& 31))))) (k := a) rfl rfl (rfl) (by omega) (by decide) ?_
                refine am_g 5 148 [some (.ref 47), some (.int (nI l)), some (.int (nI o)), some (.int (am_aimF (σ 1) (σ 2) n 9 (am_kf σ bk o)))] [.int (am_aimF (σ 1) (σ 2) n 9 (am_kf σ bk o)), .ref 52, .ref 65, .int ((upd (am_it (am_caS (am_kf σ bk) (σ 1) (σ 2) (σ 3) (μ 24) (ln l) (μ 24 b) n) (μ 25) o) s0 (((am_it (am_caS (am_kf σ bk) (σ 1) (σ 2) (σ 3) (μ 24) (ln l) (μ 24 b) n) (μ 25) o) s0) ||| (1 <<< ((nI o) &&& 31)))) a), .int (nI a), .ref 66] (hG σ sr ln Lc (am_up μ 25 (upd (am_it (am_caS (am_kf σ bk) (σ 1) (σ 2) (σ 3) (μ 24) (ln l) (μ 24 b) n) (μ 25) o) s0 (((am_it (am_caS (am_kf σ bk) (σ 1) (σ 2) (σ 3) (μ 24) (ln l) (μ 24 b) n) (μ 25) o) s0) ||| (1 <<< ((nI o) &&& 31)))))) rfl ?_
                refine am_ialdV (n := 6) (f := (μ 6)) (k := q) (w := (σ 3 (3 * q + 2))) rfl rfl (hg) (by omega) (by decide) (hRK.2.2.2.2.1 q hq) ?_
                refine am_ialdR (n := 68) (f := (μ 24)) (k := s2) rfl rfl (es2) (by omega) (by decide) ?_
                refine am_g 1 151 [some (.ref 47), some (.int (nI l)), some (.int (nI o)), some (.int (am_aimF (σ 1) (σ 2) n 9 (am_kf σ bk o)))] [.int (((upd (am_it (am_caS (am_kf σ bk) (σ 1) (σ 2) (σ 3) (μ 24) (ln l) (μ 24 b) n) (μ 25) o) s0 (((am_it (am_caS (am_kf σ bk) (σ 1) (σ 2) (σ 3) (μ 24) (ln l) (μ 24 b) n) (μ 25) o) s0) ||| (1 <<< ((nI o) &&& 31)))) a) ||| (μ 24 s2)), .int (nI a), .ref 66] (hG σ sr ln Lc (am_up μ 25 (upd (am_it (am_caS (am_kf σ bk) (σ 1) (σ 2) (σ 3) (μ 24) (ln l) (μ 24 b) n) (μ 25) o) s0 (((am_it (am_caS (am_kf σ bk) (σ 1) (σ 2) (σ 3) (μ 24) (ln l) (μ 24 b) n) (μ 25) o) s0) ||| (1 <<< ((nI o) &&& 31)))))) rfl ?_
                refine am_iastR (n := 68) (f := (upd (am_it (am_caS (am_kf σ bk) (σ 1) (σ 2) (σ 3) (μ 24) (ln l) (μ 24 b) n) (μ 25) o) s0 (((am_it (am_caS (am_kf σ bk) (σ 1) (σ 2) (σ 3) (μ 24) (ln l) (μ 24 b) n) (μ 25) o) s0) ||| (1 <<< ((nI o) &&& 31))))) (k := a) (h1 := (hG σ sr ln Lc (am_up μ 25 (upd (upd (am_it (am_caS (am_kf σ bk) (σ 1) (σ 2) (σ 3) (μ 24) (ln l) (μ 24 b) n) (μ 25) o) s0 (((am_it (am_caS (am_kf σ bk) (σ 1) (σ 2) (σ 3) (μ 24) (ln l) (μ 24 b) n) (μ 25) o) s0) ||| (1 <<< ((nI o) &&& 31)))) a (((upd (am_it (am_caS (am_kf σ bk) (σ 1) (σ 2) (σ 3) (μ 24) (ln l) (μ 24 b) n) (μ 25) o) s0 (((am_it (am_caS (am_kf σ bk) (σ 1) (σ 2) (σ 3) (μ 24) (ln l) (μ 24 b) n) (μ 25) o) s0) ||| (1 <<< ((nI o) &&& 31)))) a) ||| (μ 24 s2)))))) rfl rfl (rfl) (by omega) (by decide) rfl ?_
                refine am_g 2 2 [some (.ref 47), some (.int (nI l)), some (.int ((nI o) + 1)), some (.int (am_aimF (σ 1) (σ 2) n 9 (am_kf σ bk o)))] [] (hG σ sr ln Lc (am_up μ 25 (upd (upd (am_it (am_caS (am_kf σ bk) (σ 1) (σ 2) (σ 3) (μ 24) (ln l) (μ 24 b) n) (μ 25) o) s0 (((am_it (am_caS (am_kf σ bk) (σ 1) (σ 2) (σ 3) (μ 24) (ln l) (μ 24 b) n) (μ 25) o) s0) ||| (1 <<< ((nI o) &&& 31)))) a (((upd (am_it (am_caS (am_kf σ bk) (σ 1) (σ 2) (σ 3) (μ 24) (ln l) (μ 24 b) n) (μ 25) o) s0 (((am_it (am_caS (am_kf σ bk) (σ 1) (σ 2) (σ 3) (μ 24) (ln l) (μ 24 b) n) (μ 25) o) s0) ||| (1 <<< ((nI o) &&& 31)))) a) ||| (μ 24 s2))))) rfl ?_
                rw [nI_up, ← (show am_it (am_caS (am_kf σ bk) (σ 1) (σ 2) (σ 3) (μ 24) (ln l) (μ 24 b) n) (μ 25) (o + 1) = (upd (upd (am_it (am_caS (am_kf σ bk) (σ 1) (σ 2) (σ 3) (μ 24) (ln l) (μ 24 b) n) (μ 25) o) s0 (((am_it (am_caS (am_kf σ bk) (σ 1) (σ 2) (σ 3) (μ 24) (ln l) (μ 24 b) n) (μ 25) o) s0) ||| (1 <<< ((nI o) &&& 31)))) a (((upd (am_it (am_caS (am_kf σ bk) (σ 1) (σ 2) (σ 3) (μ 24) (ln l) (μ 24 b) n) (μ 25) o) s0 (((am_it (am_caS (am_kf σ bk) (σ 1) (σ 2) (σ 3) (μ 24) (ln l) (μ 24 b) n) (μ 25) o) s0) ||| (1 <<< ((nI o) &&& 31)))) a) ||| (μ 24 s2))) from (by rw [am_itS]; unfold am_caS am_clS; rw [show am_hb (μ 24 b) o = true from decide_eq_true c1, cond_true, if_neg c2, hg, nI_clamp (show q < 2 ^ 31 by omega), es0, am_add_nI (show s0 < 2 ^ 31 by omega), c7, am_add_no, es2, am_hat_nI (show s2 < 2 ^ 31 by omega), h0, am_add_nI (show a < 2 ^ 31 by omega)]))]
                exact ih (o + 1) _ (by omega)
            · skip
              obtain ⟨s1, hs1, es1⟩ := (hwf.2.2.1 (3 * q + 1) (by omega)).resolve_left c7
              refine am_g 5 101 [some (.ref 47), some (.int (nI l)), some (.int (nI o)), some (.int (am_aimF (σ 1) (σ 2) n 9 (am_kf σ bk o)))] [.int (am_aimF (σ 1) (σ 2) n 9 (am_kf σ bk o)), .ref 51, .ref 66] (hG σ sr ln Lc (am_up μ 25 (upd (am_it (am_caS (am_kf σ bk) (σ 1) (σ 2) (σ 3) (μ 24) (ln l) (μ 24 b) n) (μ 25) o) s0 (((am_it (am_caS (am_kf σ bk) (σ 1) (σ 2) (σ 3) (μ 24) (ln l) (μ 24 b) n) (μ 25) o) s0) ||| (1 <<< ((nI o) &&& 31)))))) rfl ?_
              refine am_ialdV (n := 6) (f := (μ 5)) (k := q) (w := (σ 3 (3 * q + 1))) rfl rfl (hg) (by omega) (by decide) (hRK.2.2.2.1 q hq) ?_
              refine am_g 1 103 [some (.ref 47), some (.int (nI l)), some (.int (nI o)), some (.int (am_aimF (σ 1) (σ 2) n 9 (am_kf σ bk o)))] [.int (σ 3 (3 * q + 1)), .ref 66, .int (σ 3 (3 * q + 1)), .ref 66] (hG σ sr ln Lc (am_up μ 25 (upd (am_it (am_caS (am_kf σ bk) (σ 1) (σ 2) (σ 3) (μ 24) (ln l) (μ 24 b) n) (μ 25) o) s0 (((am_it (am_caS (am_kf σ bk) (σ 1) (σ 2) (σ 3) (μ 24) (ln l) (μ 24 b) n) (μ 25) o) s0) ||| (1 <<< ((nI o) &&& 31)))))) rfl ?_
              refine am_ialdR (n := 68) (f := (upd (am_it (am_caS (am_kf σ bk) (σ 1) (σ 2) (σ 3) (μ 24) (ln l) (μ 24 b) n) (μ 25) o) s0 (((am_it (am_caS (am_kf σ bk) (σ 1) (σ 2) (σ 3) (μ 24) (ln l) (μ 24 b) n) (μ 25) o) s0) ||| (1 <<< ((nI o) &&& 31))))) (k := s1) rfl rfl (es1) (by omega) (by decide) ?_
              refine am_g 5 113 [some (.ref 47), some (.int (nI l)), some (.int (nI o)), some (.int (am_aimF (σ 1) (σ 2) n 9 (am_kf σ bk o)))] [.int (nI l), .ref 57, .ref 65, .int ((upd (am_it (am_caS (am_kf σ bk) (σ 1) (σ 2) (σ 3) (μ 24) (ln l) (μ 24 b) n) (μ 25) o) s0 (((am_it (am_caS (am_kf σ bk) (σ 1) (σ 2) (σ 3) (μ 24) (ln l) (μ 24 b) n) (μ 25) o) s0) ||| (1 <<< ((nI o) &&& 31)))) s1), .int (σ 3 (3 * q + 1)), .ref 66] (hG σ sr ln Lc (am_up μ 25 (upd (am_it (am_caS (am_kf σ bk) (σ 1) (σ 2) (σ 3) (μ 24) (ln l) (μ 24 b) n) (μ 25) o) s0 (((am_it (am_caS (am_kf σ bk) (σ 1) (σ 2) (σ 3) (μ 24) (ln l) (μ 24 b) n) (μ 25) o) s0) ||| (1 <<< ((nI o) &&& 31)))))) rfl ?_
              refine am_ialdV (n := 40) (f := (μ 11)) (k := l) (w := (nI z)) rfl rfl (rfl) (by omega) (by decide) (((hRL.2.2.2.2.2.1 l hl).trans (if_pos hs)).trans h7) ?_
              refine am_ialdR (n := 68) (f := (μ 24)) (k := z) rfl rfl (rfl) (by omega) (by decide) ?_
              refine am_g 1 116 [some (.ref 47), some (.int (nI l)), some (.int (nI o)), some (.int (am_aimF (σ 1) (σ 2) n 9 (am_kf σ bk o)))] [.int (((upd (am_it (am_caS (am_kf σ bk) (σ 1) (σ 2) (σ 3) (μ 24) (ln l) (μ 24 b) n) (μ 25) o) s0 (((am_it (am_caS (am_kf σ bk) (σ 1) (σ 2) (σ 3) (μ 24) (ln l) (μ 24 b) n) (μ 25) o) s0) ||| (1 <<< ((nI o) &&& 31)))) s1) ||| (μ 24 z)), .int (σ 3 (3 * q + 1)), .ref 66] (hG σ sr ln Lc (am_up μ 25 (upd (am_it (am_caS (am_kf σ bk) (σ 1) (σ 2) (σ 3) (μ 24) (ln l) (μ 24 b) n) (μ 25) o) s0 (((am_it (am_caS (am_kf σ bk) (σ 1) (σ 2) (σ 3) (μ 24) (ln l) (μ 24 b) n) (μ 25) o) s0) ||| (1 <<< ((nI o) &&& 31)))))) rfl ?_
              refine am_iastR (n := 68) (f := (upd (am_it (am_caS (am_kf σ bk) (σ 1) (σ 2) (σ 3) (μ 24) (ln l) (μ 24 b) n) (μ 25) o) s0 (((am_it (am_caS (am_kf σ bk) (σ 1) (σ 2) (σ 3) (μ 24) (ln l) (μ 24 b) n) (μ 25) o) s0) ||| (1 <<< ((nI o) &&& 31))))) (k := s1) (h1 := (hG σ sr ln Lc (am_up μ 25 (upd (upd (am_it (am_caS (am_kf σ bk) (σ 1) (σ 2) (σ 3) (μ 24) (ln l) (μ 24 b) n) (μ 25) o) s0 (((am_it (am_caS (am_kf σ bk) (σ 1) (σ 2) (σ 3) (μ 24) (ln l) (μ 24 b) n) (μ 25) o) s0) ||| (1 <<< ((nI o) &&& 31)))) s1 (((upd (am_it (am_caS (am_kf σ bk) (σ 1) (σ 2) (σ 3) (μ 24) (ln l) (μ 24 b) n) (μ 25) o) s0 (((am_it (am_caS (am_kf σ bk) (σ 1) (σ 2) (σ 3) (μ 24) (ln l) (μ 24 b) n) (μ 25) o) s0) ||| (1 <<< ((nI o) &&& 31)))) s1) ||| (μ 24 z)))))) rfl rfl (es1) (by omega) (by decide) rfl ?_
              refine am_g 3 122 [some (.ref 47), some (.int (nI l)), some (.int (nI o)), some (.int (am_aimF (σ 1) (σ 2) n 9 (am_kf σ bk o)))] [.int (am_aimF (σ 1) (σ 2) n 9 (am_kf σ bk o)), .ref 52] (hG σ sr ln Lc (am_up μ 25 (upd (upd (am_it (am_caS (am_kf σ bk) (σ 1) (σ 2) (σ 3) (μ 24) (ln l) (μ 24 b) n) (μ 25) o) s0 (((am_it (am_caS (am_kf σ bk) (σ 1) (σ 2) (σ 3) (μ 24) (ln l) (μ 24 b) n) (μ 25) o) s0) ||| (1 <<< ((nI o) &&& 31)))) s1 (((upd (am_it (am_caS (am_kf σ bk) (σ 1) (σ 2) (σ 3) (μ 24) (ln l) (μ 24 b) n) (μ 25) o) s0 (((am_it (am_caS (am_kf σ bk) (σ 1) (σ 2) (σ 3) (μ 24) (ln l) (μ 24 b) n) (μ 25) o) s0) ||| (1 <<< ((nI o) &&& 31)))) s1) ||| (μ 24 z))))) rfl ?_
              refine am_ialdV (n := 6) (f := (μ 6)) (k := q) (w := (σ 3 (3 * q + 2))) rfl rfl (hg) (by omega) (by decide) (hRK.2.2.2.2.1 q hq) ?_
              refine am_g 2 (if (σ 3 (3 * q + 2)) = (-1) then 152 else 127) [some (.ref 47), some (.int (nI l)), some (.int (nI o)), some (.int (am_aimF (σ 1) (σ 2) n 9 (am_kf σ bk o)))] [] (hG σ sr ln Lc (am_up μ 25 (upd (upd (am_it (am_caS (am_kf σ bk) (σ 1) (σ 2) (σ 3) (μ 24) (ln l) (μ 24 b) n) (μ 25) o) s0 (((am_it (am_caS (am_kf σ bk) (σ 1) (σ 2) (σ 3) (μ 24) (ln l) (μ 24 b) n) (μ 25) o) s0) ||| (1 <<< ((nI o) &&& 31)))) s1 (((upd (am_it (am_caS (am_kf σ bk) (σ 1) (σ 2) (σ 3) (μ 24) (ln l) (μ 24 b) n) (μ 25) o) s0 (((am_it (am_caS (am_kf σ bk) (σ 1) (σ 2) (σ 3) (μ 24) (ln l) (μ 24 b) n) (μ 25) o) s0) ||| (1 <<< ((nI o) &&& 31)))) s1) ||| (μ 24 z))))) rfl (am_brR (fun c9 => ?_) (fun c9 => ?_))
              · skip
                refine am_g 2 2 [some (.ref 47), some (.int (nI l)), some (.int ((nI o) + 1)), some (.int (am_aimF (σ 1) (σ 2) n 9 (am_kf σ bk o)))] [] (hG σ sr ln Lc (am_up μ 25 (upd (upd (am_it (am_caS (am_kf σ bk) (σ 1) (σ 2) (σ 3) (μ 24) (ln l) (μ 24 b) n) (μ 25) o) s0 (((am_it (am_caS (am_kf σ bk) (σ 1) (σ 2) (σ 3) (μ 24) (ln l) (μ 24 b) n) (μ 25) o) s0) ||| (1 <<< ((nI o) &&& 31)))) s1 (((upd (am_it (am_caS (am_kf σ bk) (σ 1) (σ 2) (σ 3) (μ 24) (ln l) (μ 24 b) n) (μ 25) o) s0 (((am_it (am_caS (am_kf σ bk) (σ 1) (σ 2) (σ 3) (μ 24) (ln l) (μ 24 b) n) (μ 25) o) s0) ||| (1 <<< ((nI o) &&& 31)))) s1) ||| (μ 24 z))))) rfl ?_
                rw [nI_up, ← (show am_it (am_caS (am_kf σ bk) (σ 1) (σ 2) (σ 3) (μ 24) (ln l) (μ 24 b) n) (μ 25) (o + 1) = (upd (upd (am_it (am_caS (am_kf σ bk) (σ 1) (σ 2) (σ 3) (μ 24) (ln l) (μ 24 b) n) (μ 25) o) s0 (((am_it (am_caS (am_kf σ bk) (σ 1) (σ 2) (σ 3) (μ 24) (ln l) (μ 24 b) n) (μ 25) o) s0) ||| (1 <<< ((nI o) &&& 31)))) s1 (((upd (am_it (am_caS (am_kf σ bk) (σ 1) (σ 2) (σ 3) (μ 24) (ln l) (μ 24 b) n) (μ 25) o) s0 (((am_it (am_caS (am_kf σ bk) (σ 1) (σ 2) (σ 3) (μ 24) (ln l) (μ 24 b) n) (μ 25) o) s0) ||| (1 <<< ((nI o) &&& 31)))) s1) ||| (μ 24 z))) from (by rw [am_itS]; unfold am_caS am_clS; rw [show am_hb (μ 24 b) o = true from decide_eq_true c1, cond_true, if_neg c2, hg, nI_clamp (show q < 2 ^ 31 by omega), es0, am_add_nI (show s0 < 2 ^ 31 by omega), es1, am_add_nI (show s1 < 2 ^ 31 by omega), h7, am_hat_nI (show z < 2 ^ 31 by omega), c9, am_hat_no, h0, am_add_nI (show a < 2 ^ 31 by omega), am_or0, am_upd_id]))]
                exact ih (o + 1) _ (by omega)
              · skip
                obtain ⟨s2, hs2, es2⟩ := (hwf.2.2.1 (3 * q + 2) (by omega)).resolve_left c9
                refine am_g 5 136 [some (.ref 47), some (.int (nI l)), some (.int (nI o)), some (.int (am_aimF (σ 1) (σ 2) n 9 (am_kf σ bk o)))] [.int (nI l), .ref 54, .ref 66] (hG σ sr ln Lc (am_up μ 25 (upd (upd (am_it (am_caS (am_kf σ bk) (σ 1) (σ 2) (σ 3) (μ 24) (ln l) (μ 24 b) n) (μ 25) o) s0 (((am_it (am_caS (am_kf σ bk) (σ 1) (σ 2) (σ 3) (μ 24) (ln l) (μ 24 b) n) (μ 25) o) s0) ||| (1 <<< ((nI o) &&& 31)))) s1 (((upd (am_it (am_caS (am_kf σ bk) (σ 1) (σ 2) (σ 3) (μ 24) (ln l) (μ 24 b) n) (μ 25) o) s0 (((am_it (am_caS (am_kf σ bk) (σ 1) (σ 2) (σ 3) (μ 24) (ln l) (μ 24 b) n) (μ 25) o) s0) ||| (1 <<< ((nI o) &&& 31)))) s1) ||| (μ 24 z))))) rfl ?_
                refine am_ialdV (n := 40) (f := (μ 8)) (k := l) (w := (nI a)) rfl rfl (rfl) (by omega) (by decide) ((hRL.2.2.1 l hl).trans h0) ?_
                refine am_g 1 138 [some (.ref 47), some (.int (nI l)), some (.int (nI o)), some (.int (am_aimF (σ 1) (σ 2) n 9 (am_kf σ bk o)))] [.int (nI a), .ref 66, .int (nI a), .ref 66] (hG σ sr ln Lc (am_up μ 25 (upd (upd (am_it (am_caS (am_kf σ bk) (σ 1) (σ 2) (σ 3) (μ 24) (ln l) (μ 24 b) n) (μ 25) o) s0 (((am_it (am_caS (am_kf σ bk) (σ 1) (σ 2) (σ 3) (μ 24) (ln l) (μ 24 b) n) (μ 25) o) s0) ||| (1 <<< ((nI o) &&& 31)))) s1 (((upd (am_it (am_caS (am_kf σ bk) (σ 1) (σ 2) (σ 3) (μ 24) (ln l) (μ 24 b) n) (μ 25) o) s0 (((am_it (am_caS (am_kf σ bk) (σ 1) (σ 2) (σ 3) (μ 24) (ln l) (μ 24 b) n) (μ 25) o) s0) ||| (1 <<< ((nI o) &&& 31)))) s1) ||| (μ 24 z))))) rfl ?_
                refine am_ialdR (n := 68) (f := (upd (upd (am_it (am_caS (am_kf σ bk) (σ 1) (σ 2) (σ 3) (μ 24) (ln l) (μ 24 b) n) (μ 25) o) s0 (((am_it (am_caS (am_kf σ bk) (σ 1) (σ 2) (σ 3) (μ 24) (ln l) (μ 24 b) n) (μ 25) o) s0) ||| (1 <<< ((nI o) &&& 31)))) s1 (((upd (am_it (am_caS (am_kf σ bk) (σ 1) (σ 2) (σ 3) (μ 24) (ln l) (μ 24 b) n) (μ 25) o) s0 (((am_it (am_caS (am_kf σ bk) (σ 1) (σ 2) (σ 3) (μ 24) (ln l) (μ 24 b) n) (μ 25) o) s0) ||| (1 <<< ((nI o) &&& 31)))) s1) ||| (μ 24 z)))) (k := a) rfl rfl (rfl) (by omega) (by decide) ?_
                refine am_g 5 148 [some (.ref 47), some (.int (nI l)), some (.int (nI o)), some (.int (am_aimF (σ 1) (σ 2) n 9 (am_kf σ bk o)))] [.int (am_aimF (σ 1) (σ 2) n 9 (am_kf σ bk o)), .ref 52, .ref 65, .int ((upd (upd (am_it (am_caS (am_kf σ bk) (σ 1) (σ 2) (σ 3) (μ 24) (ln l) (μ 24 b) n) (μ 25) o) s0 (((am_it (am_caS (am_kf σ bk) (σ 1) (σ 2) (σ 3) (μ 24) (ln l) (μ 24 b) n) (μ 25) o) s0) ||| (1 <<< ((nI o) &&& 31)))) s1 (((upd (am_it (am_caS (am_kf σ bk) (σ 1) (σ 2) (σ 3) (μ 24) (ln l) (μ 24 b) n) (μ 25) o) s0 (((am_it (am_caS (am_kf σ bk) (σ 1) (σ 2) (σ 3) (μ 24) (ln l) (μ 24 b) n) (μ 25) o) s0) ||| (1 <<< ((nI o) &&& 31)))) s1) ||| (μ 24 z))) a), .int (nI a), .ref 66] (hG σ sr ln Lc (am_up μ 25 (upd (upd (am_it (am_caS (am_kf σ bk) (σ 1) (σ 2) (σ 3) (μ 24) (ln l) (μ 24 b) n) (μ 25) o) s0 (((am_it (am_caS (am_kf σ bk) (σ 1) (σ 2) (σ 3) (μ 24) (ln l) (μ 24 b) n) (μ 25) o) s0) ||| (1 <<< ((nI o) &&& 31)))) s1 (((upd (am_it (am_caS (am_kf σ bk) (σ 1) (σ 2) (σ 3) (μ 24) (ln l) (μ 24 b) n) (μ 25) o) s0 (((am_it (am_caS (am_kf σ bk) (σ 1) (σ 2) (σ 3) (μ 24) (ln l) (μ 24 b) n) (μ 25) o) s0) ||| (1 <<< ((nI o) &&& 31)))) s1) ||| (μ 24 z))))) rfl ?_
                refine am_ialdV (n := 6) (f := (μ 6)) (k := q) (w := (σ 3 (3 * q + 2))) rfl rfl (hg) (by omega) (by decide) (hRK.2.2.2.2.1 q hq) ?_
                refine am_ialdR (n := 68) (f := (μ 24)) (k := s2) rfl rfl (es2) (by omega) (by decide) ?_
                refine am_g 1 151 [some (.ref 47), some (.int (nI l)), some (.int (nI o)), some (.int (am_aimF (σ 1) (σ 2) n 9 (am_kf σ bk o)))] [.int (((upd (upd (am_it (am_caS (am_kf σ bk) (σ 1) (σ 2) (σ 3) (μ 24) (ln l) (μ 24 b) n) (μ 25) o) s0 (((am_it (am_caS (am_kf σ bk) (σ 1) (σ 2) (σ 3) (μ 24) (ln l) (μ 24 b) n) (μ 25) o) s0) ||| (1 <<< ((nI o) &&& 31)))) s1 (((upd (am_it (am_caS (am_kf σ bk) (σ 1) (σ 2) (σ 3) (μ 24) (ln l) (μ 24 b) n) (μ 25) o) s0 (((am_it (am_caS (am_kf σ bk) (σ 1) (σ 2) (σ 3) (μ 24) (ln l) (μ 24 b) n) (μ 25) o) s0) ||| (1 <<< ((nI o) &&& 31)))) s1) ||| (μ 24 z))) a) ||| (μ 24 s2)), .int (nI a), .ref 66] (hG σ sr ln Lc (am_up μ 25 (upd (upd (am_it (am_caS (am_kf σ bk) (σ 1) (σ 2) (σ 3) (μ 24) (ln l) (μ 24 b) n) (μ 25) o) s0 (((am_it (am_caS (am_kf σ bk) (σ 1) (σ 2) (σ 3) (μ 24) (ln l) (μ 24 b) n) (μ 25) o) s0) ||| (1 <<< ((nI o) &&& 31)))) s1 (((upd (am_it (am_caS (am_kf σ bk) (σ 1) (σ 2) (σ 3) (μ 24) (ln l) (μ 24 b) n) (μ 25) o) s0 (((am_it (am_caS (am_kf σ bk) (σ 1) (σ 2) (σ 3) (μ 24) (ln l) (μ 24 b) n) (μ 25) o) s0) ||| (1 <<< ((nI o) &&& 31)))) s1) ||| (μ 24 z))))) rfl ?_
                refine am_iastR (n := 68) (f := (upd (upd (am_it (am_caS (am_kf σ bk) (σ 1) (σ 2) (σ 3) (μ 24) (ln l) (μ 24 b) n) (μ 25) o) s0 (((am_it (am_caS (am_kf σ bk) (σ 1) (σ 2) (σ 3) (μ 24) (ln l) (μ 24 b) n) (μ 25) o) s0) ||| (1 <<< ((nI o) &&& 31)))) s1 (((upd (am_it (am_caS (am_kf σ bk) (σ 1) (σ 2) (σ 3) (μ 24) (ln l) (μ 24 b) n) (μ 25) o) s0 (((am_it (am_caS (am_kf σ bk) (σ 1) (σ 2) (σ 3) (μ 24) (ln l) (μ 24 b) n) (μ 25) o) s0) ||| (1 <<< ((nI o) &&& 31)))) s1) ||| (μ 24 z)))) (k := a) (h1 := (hG σ sr ln Lc (am_up μ 25 (upd (upd (upd (am_it (am_caS (am_kf σ bk) (σ 1) (σ 2) (σ 3) (μ 24) (ln l) (μ 24 b) n) (μ 25) o) s0 (((am_it (am_caS (am_kf σ bk) (σ 1) (σ 2) (σ 3) (μ 24) (ln l) (μ 24 b) n) (μ 25) o) s0) ||| (1 <<< ((nI o) &&& 31)))) s1 (((upd (am_it (am_caS (am_kf σ bk) (σ 1) (σ 2) (σ 3) (μ 24) (ln l) (μ 24 b) n) (μ 25) o) s0 (((am_it (am_caS (am_kf σ bk) (σ 1) (σ 2) (σ 3) (μ 24) (ln l) (μ 24 b) n) (μ 25) o) s0) ||| (1 <<< ((nI o) &&& 31)))) s1) ||| (μ 24 z))) a (((upd (upd (am_it (am_caS (am_kf σ bk) (σ 1) (σ 2) (σ 3) (μ 24) (ln l) (μ 24 b) n) (μ 25) o) s0 (((am_it (am_caS (am_kf σ bk) (σ 1) (σ 2) (σ 3) (μ 24) (ln l) (μ 24 b) n) (μ 25) o) s0) ||| (1 <<< ((nI o) &&& 31)))) s1 (((upd (am_it (am_caS (am_kf σ bk) (σ 1) (σ 2) (σ 3) (μ 24) (ln l) (μ 24 b) n) (μ 25) o) s0 (((am_it (am_caS (am_kf σ bk) (σ 1) (σ 2) (σ 3) (μ 24) (ln l) (μ 24 b) n) (μ 25) o) s0) ||| (1 <<< ((nI o) &&& 31)))) s1) ||| (μ 24 z))) a) ||| (μ 24 s2)))))) rfl rfl (rfl) (by omega) (by decide) rfl ?_
                refine am_g 2 2 [some (.ref 47), some (.int (nI l)), some (.int ((nI o) + 1)), some (.int (am_aimF (σ 1) (σ 2) n 9 (am_kf σ bk o)))] [] (hG σ sr ln Lc (am_up μ 25 (upd (upd (upd (am_it (am_caS (am_kf σ bk) (σ 1) (σ 2) (σ 3) (μ 24) (ln l) (μ 24 b) n) (μ 25) o) s0 (((am_it (am_caS (am_kf σ bk) (σ 1) (σ 2) (σ 3) (μ 24) (ln l) (μ 24 b) n) (μ 25) o) s0) ||| (1 <<< ((nI o) &&& 31)))) s1 (((upd (am_it (am_caS (am_kf σ bk) (σ 1) (σ 2) (σ 3) (μ 24) (ln l) (μ 24 b) n) (μ 25) o) s0 (((am_it (am_caS (am_kf σ bk) (σ 1) (σ 2) (σ 3) (μ 24) (ln l) (μ 24 b) n) (μ 25) o) s0) ||| (1 <<< ((nI o) &&& 31)))) s1) ||| (μ 24 z))) a (((upd (upd (am_it (am_caS (am_kf σ bk) (σ 1) (σ 2) (σ 3) (μ 24) (ln l) (μ 24 b) n) (μ 25) o) s0 (((am_it (am_caS (am_kf σ bk) (σ 1) (σ 2) (σ 3) (μ 24) (ln l) (μ 24 b) n) (μ 25) o) s0) ||| (1 <<< ((nI o) &&& 31)))) s1 (((upd (am_it (am_caS (am_kf σ bk) (σ 1) (σ 2) (σ 3) (μ 24) (ln l) (μ 24 b) n) (μ 25) o) s0 (((am_it (am_caS (am_kf σ bk) (σ 1) (σ 2) (σ 3) (μ 24) (ln l) (μ 24 b) n) (μ 25) o) s0) ||| (1 <<< ((nI o) &&& 31)))) s1) ||| (μ 24 z))) a) ||| (μ 24 s2))))) rfl ?_
                rw [nI_up, ← (show am_it (am_caS (am_kf σ bk) (σ 1) (σ 2) (σ 3) (μ 24) (ln l) (μ 24 b) n) (μ 25) (o + 1) = (upd (upd (upd (am_it (am_caS (am_kf σ bk) (σ 1) (σ 2) (σ 3) (μ 24) (ln l) (μ 24 b) n) (μ 25) o) s0 (((am_it (am_caS (am_kf σ bk) (σ 1) (σ 2) (σ 3) (μ 24) (ln l) (μ 24 b) n) (μ 25) o) s0) ||| (1 <<< ((nI o) &&& 31)))) s1 (((upd (am_it (am_caS (am_kf σ bk) (σ 1) (σ 2) (σ 3) (μ 24) (ln l) (μ 24 b) n) (μ 25) o) s0 (((am_it (am_caS (am_kf σ bk) (σ 1) (σ 2) (σ 3) (μ 24) (ln l) (μ 24 b) n) (μ 25) o) s0) ||| (1 <<< ((nI o) &&& 31)))) s1) ||| (μ 24 z))) a (((upd (upd (am_it (am_caS (am_kf σ bk) (σ 1) (σ 2) (σ 3) (μ 24) (ln l) (μ 24 b) n) (μ 25) o) s0 (((am_it (am_caS (am_kf σ bk) (σ 1) (σ 2) (σ 3) (μ 24) (ln l) (μ 24 b) n) (μ 25) o) s0) ||| (1 <<< ((nI o) &&& 31)))) s1 (((upd (am_it (am_caS (am_kf σ bk) (σ 1) (σ 2) (σ 3) (μ 24) (ln l) (μ 24 b) n) (μ 25) o) s0 (((am_it (am_caS (am_kf σ bk) (σ 1) (σ 2) (σ 3) (μ 24) (ln l) (μ 24 b) n) (μ 25) o) s0) ||| (1 <<< ((nI o) &&& 31)))) s1) ||| (μ 24 z))) a) ||| (μ 24 s2))) from (by rw [am_itS]; unfold am_caS am_clS; rw [show am_hb (μ 24 b) o = true from decide_eq_true c1, cond_true, if_neg c2, hg, nI_clamp (show q < 2 ^ 31 by omega), es0, am_add_nI (show s0 < 2 ^ 31 by omega), es1, am_add_nI (show s1 < 2 ^ 31 by omega), h7, am_hat_nI (show z < 2 ^ 31 by omega), es2, am_hat_nI (show s2 < 2 ^ 31 by omega), h0, am_add_nI (show a < 2 ^ 31 by omega)]))]
                exact ih (o + 1) _ (by omega)
      · skip
        refine am_g 8 2 [some (.ref 47), some (.int (nI l)), some (.int ((nI o) + 1)), some (.int (-1))] [] (hG σ sr ln Lc (am_up μ 25 (am_it (am_caS (am_kf σ bk) (σ 1) (σ 2) (σ 3) (μ 24) (ln l) (μ 24 b) n) (μ 25) o))) rfl ?_
        rw [nI_up, ← (show am_it (am_caS (am_kf σ bk) (σ 1) (σ 2) (σ 3) (μ 24) (ln l) (μ 24 b) n) (μ 25) (o + 1) = (am_it (am_caS (am_kf σ bk) (σ 1) (σ 2) (σ 3) (μ 24) (ln l) (μ 24 b) n) (μ 25) o) from (by rw [am_itS]; unfold am_caS; rw [show am_hb (μ 24 b) o = false from decide_eq_false c1, cond_false]))]
        exact ih (o + 1) _ (by omega)
  exact lp 16 0 none (by omega)
theorem sp_X12_allows_4 (d : Nat) (l : Nat) (hl : l < Lc) (hL40 : Lc ≤ 40) (hRL : am_RL sr ln Lc μ) (hs : sr l = 4) {a : Nat} (ha : a < 20) (h0 : ln l 0 = nI a) {b : Nat} (hb : b < 20) (h1 : ln l 1 = nI b) {n : Nat} (hn3 : n < 3) (hn : ln l 2 = nI n) {z : Nat} (hz : z < 20) (h7 : ln l 7 = nI z) (hwf : am_WF σ sr ln Lc) (hRK : am_RK σ μ) (hRO : am_RO σ sr ln Lc O μ) (hbk : μ 27 0 = am_b2 bk) (hok : ∀ p, p < 16 → am_hb (μ 24 b) p = true → p < am_bM bk O) : am_X xs LL (d + 4) 170 [.ref 47, .int (nI l)] (hG σ sr ln Lc μ) none (hG σ sr ln Lc (am_up μ 25 (am_it (am_caS (am_kf σ bk) (σ 1) (σ 2) (σ 3) (μ 24) (ln l) (μ 24 b) n) (μ 25) 16))) := by
  refine am_XR (d := d + 3) (C := cd_X12_allows) (L := [some (.ref 47), some (.int (nI l)), none]) rfl rfl rfl rfl ?_
  refine am_g 3 5 [some (.ref 47), some (.int (nI l)), none] [.int (nI l), .ref 53] (hG σ sr ln Lc μ) rfl ?_
  refine am_ialdV (n := 40) (f := (μ 7)) (k := l) (w := 4) rfl rfl (rfl) (by omega) (by decide) ((hRL.2.1 l hl).trans (by rw [hs]; rfl)) ?_
  refine am_g 3 238 [some (.ref 47), some (.int (nI l)), none] [.int (nI l), .ref 47] (hG σ sr ln Lc μ) rfl ?_
  refine am_call (y := 169) (vs := [.ref 47, .int (nI l)]) (rest := []) (v := none) (h1 := (hG σ sr ln Lc (am_up μ 25 (am_it (am_caS (am_kf σ bk) (σ 1) (σ 2) (σ 3) (μ 24) (ln l) (μ 24 b) n) (μ 25) 16)))) rfl rfl rfl (sp_X12_calls d l hl hL40 hRL hs ha h0 hb h1 hn3 hn hz h7 hwf hRK hRO hbk hok) ?_
  exact am_ret2 rfl rfl rfl rfl rfl
theorem sp_X12_allows_5k (d : Nat) (l : Nat) (hl : l < Lc) (hL40 : Lc ≤ 40) (hRL : am_RL sr ln Lc μ) (hs : sr l = 5) {a : Nat} (ha : a < 20) (h0 : ln l 0 = nI a) (h27 : ¬ μ 27 0 = 0) : am_X xs LL (d + 1) 170 [.ref 47, .int (nI l)] (hG σ sr ln Lc μ) none (hG σ sr ln Lc (am_up μ 25 (upd (μ 25) a ((μ 25 a) ||| (1 <<< ((ln l 2) &&& 31)))))) := by
  refine am_XR (d := d + 0) (C := cd_X12_allows) (L := [some (.ref 47), some (.int (nI l)), none]) rfl rfl rfl rfl ?_
  refine am_g 3 5 [some (.ref 47), some (.int (nI l)), none] [.int (nI l), .ref 53] (hG σ sr ln Lc μ) rfl ?_
  refine am_ialdV (n := 40) (f := (μ 7)) (k := l) (w := 5) rfl rfl (rfl) (by omega) (by decide) ((hRL.2.1 l hl).trans (by rw [hs]; rfl)) ?_
  refine am_g 6 251 [some (.ref 47), some (.int (nI l)), none] [.int (nI l), .ref 54, .ref 66] (hG σ sr ln Lc μ) rfl ?_
  refine am_ialdV (n := 40) (f := (μ 8)) (k := l) (w := (nI a)) rfl rfl (rfl) (by omega) (by decide) ((hRL.2.2.1 l hl).trans h0) ?_
  refine am_g 1 253 [some (.ref 47), some (.int (nI l)), none] [.int (nI a), .ref 66, .int (nI a), .ref 66] (hG σ sr ln Lc μ) rfl ?_
  refine am_ialdR (n := 68) (f := (μ 25)) (k := a) rfl rfl (rfl) (by omega) (by decide) ?_
  refine am_g 4 (if (μ 27 0) = 0 then 271 else 262) [some (.ref 47), some (.int (nI l)), none] [.int 1, .int (μ 25 a), .int (nI a), .ref 66] (hG σ sr ln Lc μ) rfl ?_
  rw [if_neg (show ¬ (μ 27 0) = 0 from h27)]
  refine am_g 3 267 [some (.ref 47), some (.int (nI l)), none] [.int (nI l), .ref 56, .int 1, .int (μ 25 a), .int (nI a), .ref 66] (hG σ sr ln Lc μ) rfl ?_
  refine am_ialdV (n := 40) (f := (μ 10)) (k := l) (w := (ln l 2)) rfl rfl (rfl) (by omega) (by decide) ((hRL.2.2.2.2.1 l hl)) ?_
  refine am_g 3 279 [some (.ref 47), some (.int (nI l)), none] [.int ((μ 25 a) ||| (1 <<< ((ln l 2) &&& 31))), .int (nI a), .ref 66] (hG σ sr ln Lc μ) rfl ?_
  refine am_iastR (n := 68) (f := (μ 25)) (k := a) (h1 := (hG σ sr ln Lc (am_up μ 25 (upd (μ 25) a ((μ 25 a) ||| (1 <<< ((ln l 2) &&& 31))))))) rfl rfl (rfl) (by omega) (by decide) rfl ?_
  exact am_ret2 rfl rfl rfl rfl rfl
theorem sp_X12_allows_5o (d : Nat) (l : Nat) (hl : l < Lc) (hL40 : Lc ≤ 40) (hRL : am_RL sr ln Lc μ) (hs : sr l = 5) {a : Nat} (ha : a < 20) (h0 : ln l 0 = nI a) (h27 : μ 27 0 = 0) : am_X xs LL (d + 1) 170 [.ref 47, .int (nI l)] (hG σ sr ln Lc μ) none (hG σ sr ln Lc (am_up μ 25 (upd (μ 25) a ((μ 25 a) ||| (1 <<< ((ln l 7) &&& 31)))))) := by
  refine am_XR (d := d + 0) (C := cd_X12_allows) (L := [some (.ref 47), some (.int (nI l)), none]) rfl rfl rfl rfl ?_
  refine am_g 3 5 [some (.ref 47), some (.int (nI l)), none] [.int (nI l), .ref 53] (hG σ sr ln Lc μ) rfl ?_
  refine am_ialdV (n := 40) (f := (μ 7)) (k := l) (w := 5) rfl rfl (rfl) (by omega) (by decide) ((hRL.2.1 l hl).trans (by rw [hs]; rfl)) ?_
  refine am_g 6 251 [some (.ref 47), some (.int (nI l)), none] [.int (nI l), .ref 54, .ref 66] (hG σ sr ln Lc μ) rfl ?_
  refine am_ialdV (n := 40) (f := (μ 8)) (k := l) (w := (nI a)) rfl rfl (rfl) (by omega) (by decide) ((hRL.2.2.1 l hl).trans h0) ?_
  refine am_g 1 253 [some (.ref 47), some (.int (nI l)), none] [.int (nI a), .ref 66, .int (nI a), .ref 66] (hG σ sr ln Lc μ) rfl ?_
  refine am_ialdR (n := 68) (f := (μ 25)) (k := a) rfl rfl (rfl) (by omega) (by decide) ?_
  refine am_g 4 (if (μ 27 0) = 0 then 271 else 262) [some (.ref 47), some (.int (nI l)), none] [.int 1, .int (μ 25 a), .int (nI a), .ref 66] (hG σ sr ln Lc μ) rfl ?_
  rw [if_pos (show (μ 27 0) = 0 from h27)]
  refine am_g 3 276 [some (.ref 47), some (.int (nI l)), none] [.int (nI l), .ref 62, .int 1, .int (μ 25 a), .int (nI a), .ref 66] (hG σ sr ln Lc μ) rfl ?_
  refine am_ialdV (n := 40) (f := (μ 16)) (k := l) (w := (ln l 7)) rfl rfl (rfl) (by omega) (by decide) ((hRL.2.2.2.2.2.2.2.2.2.2 l hl).trans (if_pos hs)) ?_
  refine am_g 2 279 [some (.ref 47), some (.int (nI l)), none] [.int ((μ 25 a) ||| (1 <<< ((ln l 7) &&& 31))), .int (nI a), .ref 66] (hG σ sr ln Lc μ) rfl ?_
  refine am_iastR (n := 68) (f := (μ 25)) (k := a) (h1 := (hG σ sr ln Lc (am_up μ 25 (upd (μ 25) a ((μ 25 a) ||| (1 <<< ((ln l 7) &&& 31))))))) rfl rfl (rfl) (by omega) (by decide) rfl ?_
  exact am_ret2 rfl rfl rfl rfl rfl
theorem sp_X12_allows (d l : Nat) (hl : l < Lc) (hwf : am_WF σ sr ln Lc) (hRK : am_RK σ μ) (hRL : am_RL sr ln Lc μ) (hRO : am_RO σ sr ln Lc O μ) (hbk : μ 27 0 = am_b2 bk) (hok : am_okM (am_bM bk O) (μ 24)) : am_X xs LL (d + 4) 170 [.ref 47, .int (nI l)] (hG σ sr ln Lc μ) none (hG σ sr ln Lc (am_up μ 25 (am_alw (am_kf σ bk) (σ 1) (σ 2) (σ 3) bk (sr l) (ln l) (μ 24) (μ 25)))) := by
  have hL40 : Lc ≤ 40 := hwf.2.2.2.2.2.2
  obtain ⟨⟨a, ha, h0⟩, -, h1, -, hn3, -, -, h7, -, -⟩ := hwf.2.2.2.2.2.1 l hl
  have hok2 : ∀ b, b < 20 → ∀ p, p < 16 → am_hb (μ 24 b) p = true → p < am_bM bk O := fun b hb p hp hh => hok (nI b) (am_pl_nI (by omega)) p hp (by rw [am_hat_nI (by omega)]; exact hh)
  have hs6 := hwf.2.2.2.2.1 l hl
  generalize hq : sr l = s at hs6 h1 hn3 h7 ⊢
  match s, hs6 with
  | 0, _ =>
    obtain ⟨b, hb, h1⟩ := h1 (by decide)
    have k := sp_X12_allows_0 (σ := σ) (μ := μ) (xs := xs) (LL := LL) (d + 3) l hl hL40 hRL hq ha h0 hb h1
    rw [am_alw_0, h0, h1, am_add_nI (by omega), am_hat_nI (by omega)]
    exact k
  | 1, _ =>
    obtain ⟨b, hb, h1⟩ := h1 (by decide)
    have k := sp_X12_allows_1 (σ := σ) (μ := μ) (xs := xs) (LL := LL) (bk := bk) d l hl hL40 hRL hq ha h0 hb h1 (hRK.1 ▸ hwf.1) (fun o ho hh => ⟨am_kf_pl hwf hRO.1 (hok2 b hb o ho (decide_eq_true hh)), fun d => sp_X12_kindFor d o hL40 hRO hRL hbk (hok2 b hb o ho (decide_eq_true hh))⟩)
    rw [am_alw_1, h0, h1, am_add_nI (by omega), am_hat_nI (by omega), ← hRK.1]
    exact k
  | 2, _ =>
    obtain ⟨b, hb, h1⟩ := h1 (by decide)
    obtain ⟨n, hn, e⟩ := hn3 (by decide) (by decide)
    have k := sp_X12_allows_2 (σ := σ) (μ := μ) (xs := xs) (LL := LL) (d + 2) l hl hL40 hRL hq ha h0 hb h1 hn e
    rw [am_alw_2, h0, h1, am_hat_nI (by omega), e, nI_clamp (by omega)]
    exact k
  | 3, _ =>
    obtain ⟨b, hb, h1⟩ := h1 (by decide)
    obtain ⟨n, hn, e⟩ := hn3 (by decide) (by decide)
    have k := sp_X12_allows_3 (σ := σ) (μ := μ) (xs := xs) (LL := LL) (d + 2) l hl hL40 hRL hq ha h0 hb h1 hn e
    rw [am_alw_3, h0, h1, am_hat_nI (by omega), am_hat_nI (by omega), e, nI_clamp (by omega)]
    exact k
  | 4, _ =>
    obtain ⟨b, hb, h1⟩ := h1 (by decide)
    obtain ⟨n, hn, e⟩ := hn3 (by decide) (by decide)
    obtain ⟨z, hz, h7⟩ := h7 rfl
    have k := sp_X12_allows_4 (σ := σ) (μ := μ) (xs := xs) (LL := LL) d l hl hL40 hRL hq ha h0 hb h1 hn e hz h7 hwf hRK hRO hbk (hok2 b hb)
    rw [am_alw_4, h1, am_hat_nI (by omega), e, nI_clamp (by omega)]
    exact k
  | 5, _ =>
    rw [am_alw_5, h0, am_add_nI (by omega)]
    cases bk with
    | true => exact sp_X12_allows_5k (d + 3) l hl hL40 hRL hq ha h0 (by rw [hbk]; decide)
    | false => exact sp_X12_allows_5o (d + 3) l hl hL40 hRL hq ha h0 hbk
end MA
