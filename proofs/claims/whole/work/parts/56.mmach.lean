/-! the reference: the machine -/
def pu_RM (H D : Nat → Int32) (μ : Nat → Nat → Int32) : Prop := (∀ n, n < 20 → μ 30 n = H n) ∧ (∀ n, n < 20 → μ 31 n = D n) ∧ ∀ k, k < 48 → μ 32 k = H (20 + k)
section MM
variable {xs : Nat → Int32} {LL : Nat} {σ μ ν : Nat → Nat → Int32} {sr : Nat → Nat} {ln : Nat → Nat → Int32} {Lc O : Nat}
theorem pu_RM_put {H D : Nat → Int32} (h : pu_RM H D μ) {n : Nat} (hn : n < 20) (v : Int32) : pu_RM (am_pt1 (nI n) v H) (am_pt2 (nI n) v D) (am_up (am_up μ 30 (upd (μ 30) n v)) 31 (upd (μ 31) n (μ 31 n ||| am_bitM v))) := by
  rw [am_pt1_nI (by omega), am_pt2_nI (by omega)]
  refine ⟨fun k hk => ?_, fun k hk => ?_, fun k hk => ?_⟩
  · show upd (μ 30) n v k = upd H n v k
    unfold upd
    rw [h.1 k hk]
  · show upd (μ 31) n (μ 31 n ||| am_bitM v) k = _
    by_cases hv : v = -1
    · rw [if_pos hv, show am_bitM v = 0 from if_pos hv, am_or0, am_upd_id, h.2.1 k hk]
    · rw [if_neg hv, show am_bitM v = 1 <<< (v &&& 31) from if_neg hv]
      unfold upd
      rw [h.2.1 k hk, h.2.1 n hn]
  · show μ 32 k = upd H n v (20 + k)
    unfold upd
    rw [if_neg (by omega), h.2.2 k hk]
theorem pu_RM_fld {H D : Nat → Int32} (h : pu_RM H D μ) {n : Nat} (hn : n < 48) (v : Int32) : pu_RM (am_pt1 (nI (20 + n)) v H) (am_pt2 (nI (20 + n)) v D) (am_up μ 32 (upd (μ 32) n v)) := by
  rw [am_pt1_nI (by omega), am_pt2_nI (by omega)]
  refine ⟨fun k hk => ?_, fun k hk => ?_, fun k hk => ?_⟩
  · show μ 30 k = upd H (20 + n) v k
    unfold upd
    rw [if_neg (by omega), h.1 k hk]
  · show μ 31 k = _
    rw [h.2.1 k hk]
    split
    · rfl
    · unfold upd
      rw [if_neg (by omega)]
  · show upd (μ 32) n v k = upd H (20 + n) v (20 + k)
    unfold upd
    by_cases e : k = n
    · rw [if_pos e, if_pos (by omega)]
    · rw [if_neg e, if_neg (by omega), h.2.2 k hk]
theorem sp_X12_does_0 (d : Nat) (l : Nat) (hl : l < Lc) (hL40 : Lc ≤ 40) (hRL : am_RL sr ln Lc μ) (hs : sr l = 0) {a : Nat} (ha : a < 20) (h0 : ln l 0 = nI a) {b : Nat} (hb : b < 20) (h1 : ln l 1 = nI b) {v : Int32} (hv : μ 30 b = v) : am_X xs LL (d + 2) 197 [.ref 47, .int (nI l)] (hG σ sr ln Lc μ) (some (.int 1)) (hG σ sr ln Lc (am_up (am_up μ 30 (upd (μ 30) a v)) 31 (upd (μ 31) a (((μ 31) a) ||| am_bitM v)))) := by
  refine am_XR (d := d + 1) (C := cd_X12_does) (L := [some (.ref 47), some (.int (nI l)), none, none, none]) rfl rfl rfl rfl ?_
  refine am_g 3 5 [some (.ref 47), some (.int (nI l)), none, none, none] [.int (nI l), .ref 55] (hG σ sr ln Lc μ) rfl ?_
  refine am_ialdV (n := 40) (f := (μ 9)) (k := l) (w := (nI b)) rfl rfl (rfl) (by omega) (by decide) ((hRL.2.2.2.1 l hl).trans h1) ?_
  refine am_g 2 (if (nI b) = (-1) then 10 else 14) [some (.ref 47), some (.int (nI l)), none, none, none] [] (hG σ sr ln Lc μ) rfl ?_
  rw [if_neg (show ¬ (nI b) = (-1) from (nI_m1 (by omega)))]
  refine am_g 5 23 [some (.ref 47), some (.int (nI l)), none, none, none] [.int (nI l), .ref 55, .ref 68] (hG σ sr ln Lc μ) rfl ?_
  refine am_ialdV (n := 40) (f := (μ 9)) (k := l) (w := (nI b)) rfl rfl (rfl) (by omega) (by decide) ((hRL.2.2.2.1 l hl).trans h1) ?_
  refine am_ialdV (n := 20) (f := (μ 30)) (k := b) (w := v) rfl rfl (rfl) (by omega) (by decide) (hv) ?_
  refine am_g 4 31 [some (.ref 47), some (.int (nI l)), some (.int v), none, none] [.int (nI l), .ref 53] (hG σ sr ln Lc μ) rfl ?_
  refine am_ialdV (n := 40) (f := (μ 7)) (k := l) (w := 0) rfl rfl (rfl) (by omega) (by decide) ((hRL.2.1 l hl).trans (by rw [hs]; rfl)) ?_
  refine am_g 5 74 [some (.ref 47), some (.int (nI l)), some (.int v), none, none] [.int (nI l), .ref 54, .ref 47] (hG σ sr ln Lc μ) rfl ?_
  refine am_ialdV (n := 40) (f := (μ 8)) (k := l) (w := (nI a)) rfl rfl (rfl) (by omega) (by decide) ((hRL.2.2.1 l hl).trans h0) ?_
  refine am_g 1 76 [some (.ref 47), some (.int (nI l)), some (.int v), none, none] [.int v, .int (nI a), .ref 47] (hG σ sr ln Lc μ) rfl ?_
  refine am_call (y := 196) (vs := [.ref 47, .int (nI a), .int v]) (rest := []) (v := none) (h1 := (hG σ sr ln Lc (am_up (am_up μ 30 (upd (μ 30) a v)) 31 (upd (μ 31) a (((μ 31) a) ||| am_bitM v))))) rfl rfl rfl (sp_X12_gets (σ := σ) (μ := μ) d a (by omega) _) ?_
  refine am_g 1 80 [some (.ref 47), some (.int (nI l)), some (.int v), none, none] [.int 1] (hG σ sr ln Lc (am_up (am_up μ 30 (upd (μ 30) a v)) 31 (upd (μ 31) a (((μ 31) a) ||| am_bitM v)))) rfl ?_
  exact am_ret2 rfl rfl rfl rfl rfl
theorem sp_X12_does_5 (d : Nat) (l : Nat) (hl : l < Lc) (hL40 : Lc ≤ 40) (hRL : am_RL sr ln Lc μ) (hs : sr l = 5) {a : Nat} (ha : a < 20) (h0 : ln l 0 = nI a) (h1 : ln l 1 = -1) : am_X xs LL (d + 2) 197 [.ref 47, .int (nI l)] (hG σ sr ln Lc μ) (some (.int 1)) (hG σ sr ln Lc (am_up (am_up μ 30 (upd (μ 30) a (ln l 7))) 31 (upd (μ 31) a (((μ 31) a) ||| am_bitM (ln l 7))))) := by
  refine am_XR (d := d + 1) (C := cd_X12_does) (L := [some (.ref 47), some (.int (nI l)), none, none, none]) rfl rfl rfl rfl ?_
  refine am_g 3 5 [some (.ref 47), some (.int (nI l)), none, none, none] [.int (nI l), .ref 55] (hG σ sr ln Lc μ) rfl ?_
  refine am_ialdV (n := 40) (f := (μ 9)) (k := l) (w := (-1)) rfl rfl (rfl) (by omega) (by decide) ((hRL.2.2.2.1 l hl).trans h1) ?_
  refine am_g 8 31 [some (.ref 47), some (.int (nI l)), some (.int (-1)), none, none] [.int (nI l), .ref 53] (hG σ sr ln Lc μ) rfl ?_
  refine am_ialdV (n := 40) (f := (μ 7)) (k := l) (w := 5) rfl rfl (rfl) (by omega) (by decide) ((hRL.2.1 l hl).trans (by rw [hs]; rfl)) ?_
  refine am_g 5 325 [some (.ref 47), some (.int (nI l)), some (.int (-1)), none, none] [.int (nI l), .ref 54, .ref 47] (hG σ sr ln Lc μ) rfl ?_
  refine am_ialdV (n := 40) (f := (μ 8)) (k := l) (w := (nI a)) rfl rfl (rfl) (by omega) (by decide) ((hRL.2.2.1 l hl).trans h0) ?_
  refine am_g 3 331 [some (.ref 47), some (.int (nI l)), some (.int (-1)), none, none] [.int (nI l), .ref 62, .int (nI a), .ref 47] (hG σ sr ln Lc μ) rfl ?_
  refine am_ialdV (n := 40) (f := (μ 16)) (k := l) (w := (ln l 7)) rfl rfl (rfl) (by omega) (by decide) ((hRL.2.2.2.2.2.2.2.2.2.2 l hl).trans (if_pos hs)) ?_
  refine am_call (y := 196) (vs := [.ref 47, .int (nI a), .int (ln l 7)]) (rest := []) (v := none) (h1 := (hG σ sr ln Lc (am_up (am_up μ 30 (upd (μ 30) a (ln l 7))) 31 (upd (μ 31) a (((μ 31) a) ||| am_bitM (ln l 7)))))) rfl rfl rfl (sp_X12_gets (σ := σ) (μ := μ) d a (by omega) _) ?_
  refine am_g 1 336 [some (.ref 47), some (.int (nI l)), some (.int (-1)), none, none] [.int 1] (hG σ sr ln Lc (am_up (am_up μ 30 (upd (μ 30) a (ln l 7))) 31 (upd (μ 31) a (((μ 31) a) ||| am_bitM (ln l 7))))) rfl ?_
  exact am_ret2 rfl rfl rfl rfl rfl
theorem sp_X12_does_1z (d : Nat) (l : Nat) (hl : l < Lc) (hL40 : Lc ≤ 40) (hRL : am_RL sr ln Lc μ) (hs : sr l = 1) {a : Nat} (ha : a < 20) (h0 : ln l 0 = nI a) {b : Nat} (hb : b < 20) (h1 : ln l 1 = nI b) (hv : μ 30 b = -1) : am_X xs LL (d + 2) 197 [.ref 47, .int (nI l)] (hG σ sr ln Lc μ) (some (.int 1)) (hG σ sr ln Lc (am_up (am_up μ 30 (upd (μ 30) a (-1))) 31 (upd (μ 31) a (((μ 31) a) ||| am_bitM (-1))))) := by
  refine am_XR (d := d + 1) (C := cd_X12_does) (L := [some (.ref 47), some (.int (nI l)), none, none, none]) rfl rfl rfl rfl ?_
  refine am_g 3 5 [some (.ref 47), some (.int (nI l)), none, none, none] [.int (nI l), .ref 55] (hG σ sr ln Lc μ) rfl ?_
  refine am_ialdV (n := 40) (f := (μ 9)) (k := l) (w := (nI b)) rfl rfl (rfl) (by omega) (by decide) ((hRL.2.2.2.1 l hl).trans h1) ?_
  refine am_g 2 (if (nI b) = (-1) then 10 else 14) [some (.ref 47), some (.int (nI l)), none, none, none] [] (hG σ sr ln Lc μ) rfl ?_
  rw [if_neg (show ¬ (nI b) = (-1) from (nI_m1 (by omega)))]
  refine am_g 5 23 [some (.ref 47), some (.int (nI l)), none, none, none] [.int (nI l), .ref 55, .ref 68] (hG σ sr ln Lc μ) rfl ?_
  refine am_ialdV (n := 40) (f := (μ 9)) (k := l) (w := (nI b)) rfl rfl (rfl) (by omega) (by decide) ((hRL.2.2.2.1 l hl).trans h1) ?_
  refine am_ialdV (n := 20) (f := (μ 30)) (k := b) (w := (-1)) rfl rfl (rfl) (by omega) (by decide) (hv) ?_
  refine am_g 4 31 [some (.ref 47), some (.int (nI l)), some (.int (-1)), none, none] [.int (nI l), .ref 53] (hG σ sr ln Lc μ) rfl ?_
  refine am_ialdV (n := 40) (f := (μ 7)) (k := l) (w := 1) rfl rfl (rfl) (by omega) (by decide) ((hRL.2.1 l hl).trans (by rw [hs]; rfl)) ?_
  refine am_g 8 112 [some (.ref 47), some (.int (nI l)), some (.int (-1)), none, none] [.int (nI l), .ref 54, .ref 47] (hG σ sr ln Lc μ) rfl ?_
  refine am_ialdV (n := 40) (f := (μ 8)) (k := l) (w := (nI a)) rfl rfl (rfl) (by omega) (by decide) ((hRL.2.2.1 l hl).trans h0) ?_
  refine am_g 1 114 [some (.ref 47), some (.int (nI l)), some (.int (-1)), none, none] [.int (-1), .int (nI a), .ref 47] (hG σ sr ln Lc μ) rfl ?_
  refine am_call (y := 196) (vs := [.ref 47, .int (nI a), .int (-1)]) (rest := []) (v := none) (h1 := (hG σ sr ln Lc (am_up (am_up μ 30 (upd (μ 30) a (-1))) 31 (upd (μ 31) a (((μ 31) a) ||| am_bitM (-1)))))) rfl rfl rfl (sp_X12_gets (σ := σ) (μ := μ) d a (by omega) _) ?_
  refine am_g 1 118 [some (.ref 47), some (.int (nI l)), some (.int (-1)), none, none] [.int 1] (hG σ sr ln Lc (am_up (am_up μ 30 (upd (μ 30) a (-1))) 31 (upd (μ 31) a (((μ 31) a) ||| am_bitM (-1))))) rfl ?_
  exact am_ret2 rfl rfl rfl rfl rfl
theorem sp_X12_does_1t (d : Nat) (l : Nat) (hl : l < Lc) (hL40 : Lc ≤ 40) (hRL : am_RL sr ln Lc μ) (hs : sr l = 1) {a : Nat} (ha : a < 20) (h0 : ln l 0 = nI a) {b : Nat} (hb : b < 20) (h1 : ln l 1 = nI b) {o : Nat} (ho : o < 16) (hv : μ 30 b = nI o) (hko : ∀ d, am_X xs LL (d + 1) 154 [.ref 47, .int (nI o)] (hG σ sr ln Lc μ) (some (.int (σ 4 o))) (hG σ sr ln Lc μ)) (hk4 : am_pl 8 (σ 4 o)) (hab : am_wab (μ 1)) (hu : am_undF (μ 1) (ln l 2) 9 (σ 4 o) = true) : am_X xs LL (d + 2) 197 [.ref 47, .int (nI l)] (hG σ sr ln Lc μ) (some (.int 1)) (hG σ sr ln Lc (am_up (am_up μ 30 (upd (μ 30) a (nI o))) 31 (upd (μ 31) a (((μ 31) a) ||| am_bitM (nI o))))) := by
  refine am_XR (d := d + 1) (C := cd_X12_does) (L := [some (.ref 47), some (.int (nI l)), none, none, none]) rfl rfl rfl rfl ?_
  refine am_g 3 5 [some (.ref 47), some (.int (nI l)), none, none, none] [.int (nI l), .ref 55] (hG σ sr ln Lc μ) rfl ?_
  refine am_ialdV (n := 40) (f := (μ 9)) (k := l) (w := (nI b)) rfl rfl (rfl) (by omega) (by decide) ((hRL.2.2.2.1 l hl).trans h1) ?_
  refine am_g 2 (if (nI b) = (-1) then 10 else 14) [some (.ref 47), some (.int (nI l)), none, none, none] [] (hG σ sr ln Lc μ) rfl ?_
  rw [if_neg (show ¬ (nI b) = (-1) from (nI_m1 (by omega)))]
  refine am_g 5 23 [some (.ref 47), some (.int (nI l)), none, none, none] [.int (nI l), .ref 55, .ref 68] (hG σ sr ln Lc μ) rfl ?_
  refine am_ialdV (n := 40) (f := (μ 9)) (k := l) (w := (nI b)) rfl rfl (rfl) (by omega) (by decide) ((hRL.2.2.2.1 l hl).trans h1) ?_
  refine am_ialdV (n := 20) (f := (μ 30)) (k := b) (w := (nI o)) rfl rfl (rfl) (by omega) (by decide) (hv) ?_
  refine am_g 4 31 [some (.ref 47), some (.int (nI l)), some (.int (nI o)), none, none] [.int (nI l), .ref 53] (hG σ sr ln Lc μ) rfl ?_
  refine am_ialdV (n := 40) (f := (μ 7)) (k := l) (w := 1) rfl rfl (rfl) (by omega) (by decide) ((hRL.2.1 l hl).trans (by rw [hs]; rfl)) ?_
  refine am_g 4 (if (nI o) = (-1) then 106 else 86) [some (.ref 47), some (.int (nI l)), some (.int (nI o)), none, none] [] (hG σ sr ln Lc μ) rfl ?_
  rw [if_neg (show ¬ (nI o) = (-1) from (nI_m1 (by omega)))]
  refine am_g 3 89 [some (.ref 47), some (.int (nI l)), some (.int (nI o)), none, none] [.int (nI o), .ref 47, .ref 47] (hG σ sr ln Lc μ) rfl ?_
  refine am_call (y := 154) (vs := [.ref 47, .int (nI o)]) (rest := [.ref 47]) (v := (some (.int (σ 4 o)))) (h1 := (hG σ sr ln Lc μ)) rfl rfl rfl (hko d) ?_
  refine am_g 3 97 [some (.ref 47), some (.int (nI l)), some (.int (nI o)), none, none] [.int (nI l), .ref 56, .int (σ 4 o), .ref 47] (hG σ sr ln Lc μ) rfl ?_
  refine am_ialdV (n := 40) (f := (μ 10)) (k := l) (w := (ln l 2)) rfl rfl (rfl) (by omega) (by decide) ((hRL.2.2.2.2.1 l hl)) ?_
  refine am_call (y := 150) (vs := [.ref 47, .int (σ 4 o), .int (ln l 2)]) (rest := []) (v := (some (.int 1))) (h1 := (hG σ sr ln Lc μ)) rfl rfl rfl (sp_X12_isUnder (σ := σ) (μ := μ) d hab _ _ hk4 hu) ?_
  refine am_g 5 112 [some (.ref 47), some (.int (nI l)), some (.int (nI o)), none, none] [.int (nI l), .ref 54, .ref 47] (hG σ sr ln Lc μ) rfl ?_
  refine am_ialdV (n := 40) (f := (μ 8)) (k := l) (w := (nI a)) rfl rfl (rfl) (by omega) (by decide) ((hRL.2.2.1 l hl).trans h0) ?_
  refine am_g 1 114 [some (.ref 47), some (.int (nI l)), some (.int (nI o)), none, none] [.int (nI o), .int (nI a), .ref 47] (hG σ sr ln Lc μ) rfl ?_
  refine am_call (y := 196) (vs := [.ref 47, .int (nI a), .int (nI o)]) (rest := []) (v := none) (h1 := (hG σ sr ln Lc (am_up (am_up μ 30 (upd (μ 30) a (nI o))) 31 (upd (μ 31) a (((μ 31) a) ||| am_bitM (nI o)))))) rfl rfl rfl (sp_X12_gets (σ := σ) (μ := μ) d a (by omega) _) ?_
  refine am_g 1 118 [some (.ref 47), some (.int (nI l)), some (.int (nI o)), none, none] [.int 1] (hG σ sr ln Lc (am_up (am_up μ 30 (upd (μ 30) a (nI o))) 31 (upd (μ 31) a (((μ 31) a) ||| am_bitM (nI o))))) rfl ?_
  exact am_ret2 rfl rfl rfl rfl rfl
theorem sp_X12_does_1f (d : Nat) (l : Nat) (hl : l < Lc) (hL40 : Lc ≤ 40) (hRL : am_RL sr ln Lc μ) (hs : sr l = 1) {a : Nat} (ha : a < 20) (h0 : ln l 0 = nI a) {b : Nat} (hb : b < 20) (h1 : ln l 1 = nI b) {o : Nat} (ho : o < 16) (hv : μ 30 b = nI o) (hko : ∀ d, am_X xs LL (d + 1) 154 [.ref 47, .int (nI o)] (hG σ sr ln Lc μ) (some (.int (σ 4 o))) (hG σ sr ln Lc μ)) (hk4 : am_pl 8 (σ 4 o)) (hab : am_wab (μ 1)) (hu : am_undF (μ 1) (ln l 2) 9 (σ 4 o) = false) : am_X xs LL (d + 2) 197 [.ref 47, .int (nI l)] (hG σ sr ln Lc μ) (some (.int 0)) (hG σ sr ln Lc μ) := by
  refine am_XR (d := d + 1) (C := cd_X12_does) (L := [some (.ref 47), some (.int (nI l)), none, none, none]) rfl rfl rfl rfl ?_
  refine am_g 3 5 [some (.ref 47), some (.int (nI l)), none, none, none] [.int (nI l), .ref 55] (hG σ sr ln Lc μ) rfl ?_
  refine am_ialdV (n := 40) (f := (μ 9)) (k := l) (w := (nI b)) rfl rfl (rfl) (by omega) (by decide) ((hRL.2.2.2.1 l hl).trans h1) ?_
  refine am_g 2 (if (nI b) = (-1) then 10 else 14) [some (.ref 47), some (.int (nI l)), none, none, none] [] (hG σ sr ln Lc μ) rfl ?_
  rw [if_neg (show ¬ (nI b) = (-1) from (nI_m1 (by omega)))]
  refine am_g 5 23 [some (.ref 47), some (.int (nI l)), none, none, none] [.int (nI l), .ref 55, .ref 68] (hG σ sr ln Lc μ) rfl ?_
  refine am_ialdV (n := 40) (f := (μ 9)) (k := l) (w := (nI b)) rfl rfl (rfl) (by omega) (by decide) ((hRL.2.2.2.1 l hl).trans h1) ?_
  refine am_ialdV (n := 20) (f := (μ 30)) (k := b) (w := (nI o)) rfl rfl (rfl) (by omega) (by decide) (hv) ?_
  refine am_g 4 31 [some (.ref 47), some (.int (nI l)), some (.int (nI o)), none, none] [.int (nI l), .ref 53] (hG σ sr ln Lc μ) rfl ?_
  refine am_ialdV (n := 40) (f := (μ 7)) (k := l) (w := 1) rfl rfl (rfl) (by omega) (by decide) ((hRL.2.1 l hl).trans (by rw [hs]; rfl)) ?_
  refine am_g 4 (if (nI o) = (-1) then 106 else 86) [some (.ref 47), some (.int (nI l)), some (.int (nI o)), none, none] [] (hG σ sr ln Lc μ) rfl ?_
  rw [if_neg (show ¬ (nI o) = (-1) from (nI_m1 (by omega)))]
  refine am_g 3 89 [some (.ref 47), some (.int (nI l)), some (.int (nI o)), none, none] [.int (nI o), .ref 47, .ref 47] (hG σ sr ln Lc μ) rfl ?_
  refine am_call (y := 154) (vs := [.ref 47, .int (nI o)]) (rest := [.ref 47]) (v := (some (.int (σ 4 o)))) (h1 := (hG σ sr ln Lc μ)) rfl rfl rfl (hko d) ?_
  refine am_g 3 97 [some (.ref 47), some (.int (nI l)), some (.int (nI o)), none, none] [.int (nI l), .ref 56, .int (σ 4 o), .ref 47] (hG σ sr ln Lc μ) rfl ?_
  refine am_ialdV (n := 40) (f := (μ 10)) (k := l) (w := (ln l 2)) rfl rfl (rfl) (by omega) (by decide) ((hRL.2.2.2.2.1 l hl)) ?_
  refine am_call (y := 150) (vs := [.ref 47, .int (σ 4 o), .int (ln l 2)]) (rest := []) (v := (some (.int 0))) (h1 := (hG σ sr ln Lc μ)) rfl rfl rfl (sp_X12_isUnder (σ := σ) (μ := μ) d hab _ _ hk4 hu) ?_
  refine am_g 2 105 [some (.ref 47), some (.int (nI l)), some (.int (nI o)), none, none] [.int 0] (hG σ sr ln Lc μ) rfl ?_
  exact am_ret2 rfl rfl rfl rfl rfl
theorem sp_X12_does_2z (d : Nat) (l : Nat) (hl : l < Lc) (hL40 : Lc ≤ 40) (hRL : am_RL sr ln Lc μ) (hs : sr l = 2) {a : Nat} (ha : a < 20) (h0 : ln l 0 = nI a) {b : Nat} (hb : b < 20) (h1 : ln l 1 = nI b) {n : Nat} (hn3 : n < 3) (hn : ln l 2 = nI n) (hv : μ 30 b = -1) : am_X xs LL (d + 1) 197 [.ref 47, .int (nI l)] (hG σ sr ln Lc μ) (some (.int 0)) (hG σ sr ln Lc μ) := by
  refine am_XR (d := d + 0) (C := cd_X12_does) (L := [some (.ref 47), some (.int (nI l)), none, none, none]) rfl rfl rfl rfl ?_
  refine am_g 3 5 [some (.ref 47), some (.int (nI l)), none, none, none] [.int (nI l), .ref 55] (hG σ sr ln Lc μ) rfl ?_
  refine am_ialdV (n := 40) (f := (μ 9)) (k := l) (w := (nI b)) rfl rfl (rfl) (by omega) (by decide) ((hRL.2.2.2.1 l hl).trans h1) ?_
  refine am_g 2 (if (nI b) = (-1) then 10 else 14) [some (.ref 47), some (.int (nI l)), none, none, none] [] (hG σ sr ln Lc μ) rfl ?_
  rw [if_neg (show ¬ (nI b) = (-1) from (nI_m1 (by omega)))]
  refine am_g 5 23 [some (.ref 47), some (.int (nI l)), none, none, none] [.int (nI l), .ref 55, .ref 68] (hG σ sr ln Lc μ) rfl ?_
  refine am_ialdV (n := 40) (f := (μ 9)) (k := l) (w := (nI b)) rfl rfl (rfl) (by omega) (by decide) ((hRL.2.2.2.1 l hl).trans h1) ?_
  refine am_ialdV (n := 20) (f := (μ 30)) (k := b) (w := (-1)) rfl rfl (rfl) (by omega) (by decide) (hv) ?_
  refine am_g 4 31 [some (.ref 47), some (.int (nI l)), some (.int (-1)), none, none] [.int (nI l), .ref 53] (hG σ sr ln Lc μ) rfl ?_
  refine am_ialdV (n := 40) (f := (μ 7)) (k := l) (w := 2) rfl rfl (rfl) (by omega) (by decide) ((hRL.2.1 l hl).trans (by rw [hs]; rfl)) ?_
  refine am_g 5 125 [some (.ref 47), some (.int (nI l)), some (.int (-1)), none, none] [.int 0] (hG σ sr ln Lc μ) rfl ?_
  exact am_ret2 rfl rfl rfl rfl rfl
theorem sp_X12_does_2y (d : Nat) (l : Nat) (hl : l < Lc) (hL40 : Lc ≤ 40) (hRL : am_RL sr ln Lc μ) (hs : sr l = 2) {a : Nat} (ha : a < 20) (h0 : ln l 0 = nI a) {b : Nat} (hb : b < 20) (h1 : ln l 1 = nI b) {n : Nat} (hn3 : n < 3) (hn : ln l 2 = nI n) {o : Nat} (ho : o < 16) (hv : μ 30 b = nI o) : am_X xs LL (d + 2) 197 [.ref 47, .int (nI l)] (hG σ sr ln Lc μ) (some (.int 1)) (hG σ sr ln Lc (am_up (am_up μ 30 (upd (μ 30) a (μ 32 (3 * o + n)))) 31 (upd (μ 31) a (((μ 31) a) ||| am_bitM (μ 32 (3 * o + n)))))) := by
  refine am_XR (d := d + 1) (C := cd_X12_does) (L := [some (.ref 47), some (.int (nI l)), none, none, none]) rfl rfl rfl rfl ?_
  refine am_g 3 5 [some (.ref 47), some (.int (nI l)), none, none, none] [.int (nI l), .ref 55] (hG σ sr ln Lc μ) rfl ?_
  refine am_ialdV (n := 40) (f := (μ 9)) (k := l) (w := (nI b)) rfl rfl (rfl) (by omega) (by decide) ((hRL.2.2.2.1 l hl).trans h1) ?_
  refine am_g 2 (if (nI b) = (-1) then 10 else 14) [some (.ref 47), some (.int (nI l)), none, none, none] [] (hG σ sr ln Lc μ) rfl ?_
  rw [if_neg (show ¬ (nI b) = (-1) from (nI_m1 (by omega)))]
  refine am_g 5 23 [some (.ref 47), some (.int (nI l)), none, none, none] [.int (nI l), .ref 55, .ref 68] (hG σ sr ln Lc μ) rfl ?_
  refine am_ialdV (n := 40) (f := (μ 9)) (k := l) (w := (nI b)) rfl rfl (rfl) (by omega) (by decide) ((hRL.2.2.2.1 l hl).trans h1) ?_
  refine am_ialdV (n := 20) (f := (μ 30)) (k := b) (w := (nI o)) rfl rfl (rfl) (by omega) (by decide) (hv) ?_
  refine am_g 4 31 [some (.ref 47), some (.int (nI l)), some (.int (nI o)), none, none] [.int (nI l), .ref 53] (hG σ sr ln Lc μ) rfl ?_
  refine am_ialdV (n := 40) (f := (μ 7)) (k := l) (w := 2) rfl rfl (rfl) (by omega) (by decide) ((hRL.2.1 l hl).trans (by rw [hs]; rfl)) ?_
  refine am_g 4 (if (nI o) = (-1) then 124 else 126) [some (.ref 47), some (.int (nI l)), some (.int (nI o)), none, none] [] (hG σ sr ln Lc μ) rfl ?_
  rw [if_neg (show ¬ (nI o) = (-1) from (nI_m1 (by omega)))]
  refine am_g 4 132 [some (.ref 47), some (.int (nI l)), some (.int (nI o)), none, none] [.int (nI l), .ref 54, .ref 47] (hG σ sr ln Lc μ) rfl ?_
  refine am_ialdV (n := 40) (f := (μ 8)) (k := l) (w := (nI a)) rfl rfl (rfl) (by omega) (by decide) ((hRL.2.2.1 l hl).trans h0) ?_
  refine am_g 8 145 [some (.ref 47), some (.int (nI l)), some (.int (nI o)), none, none] [.int (nI l), .ref 56, .int (3 * (nI o)), .ref 70, .int (nI a), .ref 47] (hG σ sr ln Lc μ) rfl ?_
  refine am_ialdV (n := 40) (f := (μ 10)) (k := l) (w := (nI n)) rfl rfl (rfl) (by omega) (by decide) ((hRL.2.2.2.2.1 l hl).trans hn) ?_
  refine am_g 1 147 [some (.ref 47), some (.int (nI l)), some (.int (nI o)), none, none] [.int ((3 * (nI o)) + (nI n)), .ref 70, .int (nI a), .ref 47] (hG σ sr ln Lc μ) rfl ?_
  refine am_ialdR (n := 48) (f := (μ 32)) (k := ((3 * o) + n)) rfl rfl (show (((nI 3) * (nI o)) + (nI n)) = nI ((3 * o) + n) from by first | (simp only [nI_mul2, nI_add]; done) | (simp only [nI_mul2, nI_add]; exact congrArg nI (by omega))) (by omega) (by decide) ?_
  refine am_call (y := 196) (vs := [.ref 47, .int (nI a), .int (μ 32 ((3 * o) + n))]) (rest := []) (v := none) (h1 := (hG σ sr ln Lc (am_up (am_up μ 30 (upd (μ 30) a (μ 32 ((3 * o) + n)))) 31 (upd (μ 31) a (((μ 31) a) ||| am_bitM (μ 32 ((3 * o) + n))))))) rfl rfl rfl (sp_X12_gets (σ := σ) (μ := μ) d a (by omega) _) ?_
  refine am_g 1 152 [some (.ref 47), some (.int (nI l)), some (.int (nI o)), none, none] [.int 1] (hG σ sr ln Lc (am_up (am_up μ 30 (upd (μ 30) a (μ 32 ((3 * o) + n)))) 31 (upd (μ 31) a (((μ 31) a) ||| am_bitM (μ 32 ((3 * o) + n)))))) rfl ?_
  exact am_ret2 rfl rfl rfl rfl rfl
theorem sp_X12_does_3z (d : Nat) (l : Nat) (hl : l < Lc) (hL40 : Lc ≤ 40) (hRL : am_RL sr ln Lc μ) (hs : sr l = 3) {a : Nat} (ha : a < 20) (h0 : ln l 0 = nI a) {b : Nat} (hb : b < 20) (h1 : ln l 1 = nI b) {n : Nat} (hn3 : n < 3) (hn : ln l 2 = nI n) {v : Int32} (hv : μ 30 b = v) (hw : μ 30 a = -1) : am_X xs LL (d + 1) 197 [.ref 47, .int (nI l)] (hG σ sr ln Lc μ) (some (.int 0)) (hG σ sr ln Lc μ) := by
  refine am_XR (d := d + 0) (C := cd_X12_does) (L := [some (.ref 47), some (.int (nI l)), none, none, none]) rfl rfl rfl rfl ?_
  refine am_g 3 5 [some (.ref 47), some (.int (nI l)), none, none, none] [.int (nI l), .ref 55] (hG σ sr ln Lc μ) rfl ?_
  refine am_ialdV (n := 40) (f := (μ 9)) (k := l) (w := (nI b)) rfl rfl (rfl) (by omega) (by decide) ((hRL.2.2.2.1 l hl).trans h1) ?_
  refine am_g 2 (if (nI b) = (-1) then 10 else 14) [some (.ref 47), some (.int (nI l)), none, none, none] [] (hG σ sr ln Lc μ) rfl ?_
  rw [if_neg (show ¬ (nI b) = (-1) from (nI_m1 (by omega)))]
  refine am_g 5 23 [some (.ref 47), some (.int (nI l)), none, none, none] [.int (nI l), .ref 55, .ref 68] (hG σ sr ln Lc μ) rfl ?_
  refine am_ialdV (n := 40) (f := (μ 9)) (k := l) (w := (nI b)) rfl rfl (rfl) (by omega) (by decide) ((hRL.2.2.2.1 l hl).trans h1) ?_
  refine am_ialdV (n := 20) (f := (μ 30)) (k := b) (w := v) rfl rfl (rfl) (by omega) (by decide) (hv) ?_
  refine am_g 4 31 [some (.ref 47), some (.int (nI l)), some (.int v), none, none] [.int (nI l), .ref 53] (hG σ sr ln Lc μ) rfl ?_
  refine am_ialdV (n := 40) (f := (μ 7)) (k := l) (w := 3) rfl rfl (rfl) (by omega) (by decide) ((hRL.2.1 l hl).trans (by rw [hs]; rfl)) ?_
  refine am_g 6 162 [some (.ref 47), some (.int (nI l)), some (.int v), none, none] [.int (nI l), .ref 54, .ref 68] (hG σ sr ln Lc μ) rfl ?_
  refine am_ialdV (n := 40) (f := (μ 8)) (k := l) (w := (nI a)) rfl rfl (rfl) (by omega) (by decide) ((hRL.2.2.1 l hl).trans h0) ?_
  refine am_ialdV (n := 20) (f := (μ 30)) (k := a) (w := (-1)) rfl rfl (rfl) (by omega) (by decide) (hw) ?_
  refine am_g 3 169 [some (.ref 47), some (.int (nI l)), some (.int v), none, none] [.int 0] (hG σ sr ln Lc μ) rfl ?_
  exact am_ret2 rfl rfl rfl rfl rfl
theorem sp_X12_does_3y (d : Nat) (l : Nat) (hl : l < Lc) (hL40 : Lc ≤ 40) (hRL : am_RL sr ln Lc μ) (hs : sr l = 3) {a : Nat} (ha : a < 20) (h0 : ln l 0 = nI a) {b : Nat} (hb : b < 20) (h1 : ln l 1 = nI b) {n : Nat} (hn3 : n < 3) (hn : ln l 2 = nI n) {v : Int32} (hv : μ 30 b = v) {o : Nat} (ho : o < 16) (hw : μ 30 a = nI o) : am_X xs LL (d + 1) 197 [.ref 47, .int (nI l)] (hG σ sr ln Lc μ) (some (.int 1)) (hG σ sr ln Lc (am_up μ 32 (upd (μ 32) (3 * o + n) v))) := by
  refine am_XR (d := d + 0) (C := cd_X12_does) (L := [some (.ref 47), some (.int (nI l)), none, none, none]) rfl rfl rfl rfl ?_
  refine am_g 3 5 [some (.ref 47), some (.int (nI l)), none, none, none] [.int (nI l), .ref 55] (hG σ sr ln Lc μ) rfl ?_
  refine am_ialdV (n := 40) (f := (μ 9)) (k := l) (w := (nI b)) rfl rfl (rfl) (by omega) (by decide) ((hRL.2.2.2.1 l hl).trans h1) ?_
  refine am_g 2 (if (nI b) = (-1) then 10 else 14) [some (.ref 47), some (.int (nI l)), none, none, none] [] (hG σ sr ln Lc μ) rfl ?_
  rw [if_neg (show ¬ (nI b) = (-1) from (nI_m1 (by omega)))]
  refine am_g 5 23 [some (.ref 47), some (.int (nI l)), none, none, none] [.int (nI l), .ref 55, .ref 68] (hG σ sr ln Lc μ) rfl ?_
  refine am_ialdV (n := 40) (f := (μ 9)) (k := l) (w := (nI b)) rfl rfl (rfl) (by omega) (by decide) ((hRL.2.2.2.1 l hl).trans h1) ?_
  refine am_ialdV (n := 20) (f := (μ 30)) (k := b) (w := v) rfl rfl (rfl) (by omega) (by decide) (hv) ?_
  refine am_g 4 31 [some (.ref 47), some (.int (nI l)), some (.int v), none, none] [.int (nI l), .ref 53] (hG σ sr ln Lc μ) rfl ?_
  refine am_ialdV (n := 40) (f := (μ 7)) (k := l) (w := 3) rfl rfl (rfl) (by omega) (by decide) ((hRL.2.1 l hl).trans (by rw [hs]; rfl)) ?_
  refine am_g 6 162 [some (.ref 47), some (.int (nI l)), some (.int v), none, none] [.int (nI l), .ref 54, .ref 68] (hG σ sr ln Lc μ) rfl ?_
  refine am_ialdV (n := 40) (f := (μ 8)) (k := l) (w := (nI a)) rfl rfl (rfl) (by omega) (by decide) ((hRL.2.2.1 l hl).trans h0) ?_
  refine am_ialdV (n := 20) (f := (μ 30)) (k := a) (w := (nI o)) rfl rfl (rfl) (by omega) (by decide) (hw) ?_
  refine am_g 2 (if (nI o) = (-1) then 168 else 170) [some (.ref 47), some (.int (nI l)), some (.int v), none, none] [] (hG σ sr ln Lc μ) rfl ?_
  rw [if_neg (show ¬ (nI o) = (-1) from (nI_m1 (by omega)))]
  refine am_g 8 184 [some (.ref 47), some (.int (nI l)), some (.int v), none, none] [.int (nI l), .ref 54, .ref 68, .int 3, .ref 70] (hG σ sr ln Lc μ) rfl ?_
  refine am_ialdV (n := 40) (f := (μ 8)) (k := l) (w := (nI a)) rfl rfl (rfl) (by omega) (by decide) ((hRL.2.2.1 l hl).trans h0) ?_
  refine am_ialdV (n := 20) (f := (μ 30)) (k := a) (w := (nI o)) rfl rfl (rfl) (by omega) (by decide) (hw) ?_
  refine am_g 4 192 [some (.ref 47), some (.int (nI l)), some (.int v), none, none] [.int (nI l), .ref 56, .int (3 * (nI o)), .ref 70] (hG σ sr ln Lc μ) rfl ?_
  refine am_ialdV (n := 40) (f := (μ 10)) (k := l) (w := (nI n)) rfl rfl (rfl) (by omega) (by decide) ((hRL.2.2.2.2.1 l hl).trans hn) ?_
  refine am_g 2 195 [some (.ref 47), some (.int (nI l)), some (.int v), none, none] [.int v, .int ((3 * (nI o)) + (nI n)), .ref 70] (hG σ sr ln Lc μ) rfl ?_
  refine am_iastR (n := 48) (f := (μ 32)) (k := ((3 * o) + n)) (h1 := (hG σ sr ln Lc (am_up μ 32 (upd (μ 32) ((3 * o) + n) v)))) rfl rfl (show (((nI 3) * (nI o)) + (nI n)) = nI ((3 * o) + n) from by first | (simp only [nI_mul2, nI_add]; done) | (simp only [nI_mul2, nI_add]; exact congrArg nI (by omega))) (by omega) (by decide) rfl ?_
  refine am_g 1 197 [some (.ref 47), some (.int (nI l)), some (.int v), none, none] [.int 1] (hG σ sr ln Lc (am_up μ 32 (upd (μ 32) ((3 * o) + n) v))) rfl ?_
  exact am_ret2 rfl rfl rfl rfl rfl
theorem sp_X12_does_4z (d : Nat) (l : Nat) (hl : l < Lc) (hL40 : Lc ≤ 40) (hRL : am_RL sr ln Lc μ) (hs : sr l = 4) {a : Nat} (ha : a < 20) (h0 : ln l 0 = nI a) {b : Nat} (hb : b < 20) (h1 : ln l 1 = nI b) {n : Nat} (hn3 : n < 3) (hn : ln l 2 = nI n) {z : Nat} (hz : z < 20) (h7 : ln l 7 = nI z) (hv : μ 30 b = -1) : am_X xs LL (d + 1) 197 [.ref 47, .int (nI l)] (hG σ sr ln Lc μ) (some (.int 0)) (hG σ sr ln Lc μ) := by
  refine am_XR (d := d + 0) (C := cd_X12_does) (L := [some (.ref 47), some (.int (nI l)), none, none, none]) rfl rfl rfl rfl ?_
  refine am_g 3 5 [some (.ref 47), some (.int (nI l)), none, none, none] [.int (nI l), .ref 55] (hG σ sr ln Lc μ) rfl ?_
  refine am_ialdV (n := 40) (f := (μ 9)) (k := l) (w := (nI b)) rfl rfl (rfl) (by omega) (by decide) ((hRL.2.2.2.1 l hl).trans h1) ?_
  refine am_g 2 (if (nI b) = (-1) then 10 else 14) [some (.ref 47), some (.int (nI l)), none, none, none] [] (hG σ sr ln Lc μ) rfl ?_
  rw [if_neg (show ¬ (nI b) = (-1) from (nI_m1 (by omega)))]
  refine am_g 5 23 [some (.ref 47), some (.int (nI l)), none, none, none] [.int (nI l), .ref 55, .ref 68] (hG σ sr ln Lc μ) rfl ?_
  refine am_ialdV (n := 40) (f := (μ 9)) (k := l) (w := (nI b)) rfl rfl (rfl) (by omega) (by decide) ((hRL.2.2.2.1 l hl).trans h1) ?_
  refine am_ialdV (n := 20) (f := (μ 30)) (k := b) (w := (-1)) rfl rfl (rfl) (by omega) (by decide) (hv) ?_
  refine am_g 4 31 [some (.ref 47), some (.int (nI l)), some (.int (-1)), none, none] [.int (nI l), .ref 53] (hG σ sr ln Lc μ) rfl ?_
  refine am_ialdV (n := 40) (f := (μ 7)) (k := l) (w := 4) rfl rfl (rfl) (by omega) (by decide) ((hRL.2.1 l hl).trans (by rw [hs]; rfl)) ?_
  refine am_g 11 229 [some (.ref 47), some (.int (nI l)), some (.int (-1)), some (.int (-1)), none] [.int 0] (hG σ sr ln Lc μ) rfl ?_
  exact am_ret2 rfl rfl rfl rfl rfl
theorem sp_X12_does_4n (d : Nat) (l : Nat) (hl : l < Lc) (hL40 : Lc ≤ 40) (hRL : am_RL sr ln Lc μ) (hs : sr l = 4) {a : Nat} (ha : a < 20) (h0 : ln l 0 = nI a) {b : Nat} (hb : b < 20) (h1 : ln l 1 = nI b) {n : Nat} (hn3 : n < 3) (hn : ln l 2 = nI n) {z : Nat} (hz : z < 20) (h7 : ln l 7 = nI z) {o : Nat} (ho : o < 16) (hv : μ 30 b = nI o) (hko : ∀ d, am_X xs LL (d + 1) 154 [.ref 47, .int (nI o)] (hG σ sr ln Lc μ) (some (.int (σ 4 o))) (hG σ sr ln Lc μ)) (hk4 : am_pl 8 (σ 4 o)) (hab : am_wab (σ 1)) (hRK : am_RK σ μ) (hg : (am_aimF (σ 1) (σ 2) n 9 (σ 4 o)) = -1) : am_X xs LL (d + 2) 197 [.ref 47, .int (nI l)] (hG σ sr ln Lc μ) (some (.int 0)) (hG σ sr ln Lc μ) := by
  refine am_XR (d := d + 1) (C := cd_X12_does) (L := [some (.ref 47), some (.int (nI l)), none, none, none]) rfl rfl rfl rfl ?_
  refine am_g 3 5 [some (.ref 47), some (.int (nI l)), none, none, none] [.int (nI l), .ref 55] (hG σ sr ln Lc μ) rfl ?_
  refine am_ialdV (n := 40) (f := (μ 9)) (k := l) (w := (nI b)) rfl rfl (rfl) (by omega) (by decide) ((hRL.2.2.2.1 l hl).trans h1) ?_
  refine am_g 2 (if (nI b) = (-1) then 10 else 14) [some (.ref 47), some (.int (nI l)), none, none, none] [] (hG σ sr ln Lc μ) rfl ?_
  rw [if_neg (show ¬ (nI b) = (-1) from (nI_m1 (by omega)))]
  refine am_g 5 23 [some (.ref 47), some (.int (nI l)), none, none, none] [.int (nI l), .ref 55, .ref 68] (hG σ sr ln Lc μ) rfl ?_
  refine am_ialdV (n := 40) (f := (μ 9)) (k := l) (w := (nI b)) rfl rfl (rfl) (by omega) (by decide) ((hRL.2.2.2.1 l hl).trans h1) ?_
  refine am_ialdV (n := 20) (f := (μ 30)) (k := b) (w := (nI o)) rfl rfl (rfl) (by omega) (by decide) (hv) ?_
  refine am_g 4 31 [some (.ref 47), some (.int (nI l)), some (.int (nI o)), none, none] [.int (nI l), .ref 53] (hG σ sr ln Lc μ) rfl ?_
  refine am_ialdV (n := 40) (f := (μ 7)) (k := l) (w := 4) rfl rfl (rfl) (by omega) (by decide) ((hRL.2.1 l hl).trans (by rw [hs]; rfl)) ?_
  refine am_g 4 (if (nI o) = (-1) then 203 else 207) [some (.ref 47), some (.int (nI l)), some (.int (nI o)), none, none] [] (hG σ sr ln Lc μ) rfl ?_
  rw [if_neg (show ¬ (nI o) = (-1) from (nI_m1 (by omega)))]
  refine am_g 3 210 [some (.ref 47), some (.int (nI l)), some (.int (nI o)), none, none] [.int (nI o), .ref 47, .ref 47] (hG σ sr ln Lc μ) rfl ?_
  refine am_call (y := 154) (vs := [.ref 47, .int (nI o)]) (rest := [.ref 47]) (v := (some (.int (σ 4 o)))) (h1 := (hG σ sr ln Lc μ)) rfl rfl rfl (hko d) ?_
  refine am_g 3 218 [some (.ref 47), some (.int (nI l)), some (.int (nI o)), none, none] [.int (nI l), .ref 56, .int (σ 4 o), .ref 47] (hG σ sr ln Lc μ) rfl ?_
  refine am_ialdV (n := 40) (f := (μ 10)) (k := l) (w := (nI n)) rfl rfl (rfl) (by omega) (by decide) ((hRL.2.2.2.2.1 l hl).trans hn) ?_
  refine am_call (y := 147) (vs := [.ref 47, .int (σ 4 o), .int (nI n)]) (rest := []) (v := (some (.int (-1)))) (h1 := (hG σ sr ln Lc μ)) rfl rfl rfl ((by have k := sp_X12_aimOf_s (σ := σ) (μ := μ) (xs := xs) (LL := LL) (sr := sr) (ln := ln) (Lc := Lc) d hRK.1 hRK.2.1 hab _ n hk4 hn3; rw [hg] at k; exact k)) ?_
  refine am_g 5 229 [some (.ref 47), some (.int (nI l)), some (.int (nI o)), some (.int (-1)), none] [.int 0] (hG σ sr ln Lc μ) rfl ?_
  exact am_ret2 rfl rfl rfl rfl rfl
theorem sp_X12_does_4y0 (d : Nat) (l : Nat) (hl : l < Lc) (hL40 : Lc ≤ 40) (hRL : am_RL sr ln Lc μ) (hs : sr l = 4) {a : Nat} (ha : a < 20) (h0 : ln l 0 = nI a) {b : Nat} (hb : b < 20) (h1 : ln l 1 = nI b) {n : Nat} (hn3 : n < 3) (hn : ln l 2 = nI n) {z : Nat} (hz : z < 20) (h7 : ln l 7 = nI z) {o : Nat} (ho : o < 16) (hv : μ 30 b = nI o) (hko : ∀ d, am_X xs LL (d + 1) 154 [.ref 47, .int (nI o)] (hG σ sr ln Lc μ) (some (.int (σ 4 o))) (hG σ sr ln Lc μ)) (hk4 : am_pl 8 (σ 4 o)) (hab : am_wab (σ 1)) (hRK : am_RK σ μ) {q : Nat} (hq : q < 6) (hg : (am_aimF (σ 1) (σ 2) n 9 (σ 4 o)) = nI q) (e0 : σ 3 (3 * q + 0) = -1) (e1 : σ 3 (3 * q + 1) = -1) (e2 : σ 3 (3 * q + 2) = -1) : am_X xs LL (d + 2) 197 [.ref 47, .int (nI l)] (hG σ sr ln Lc μ) (some (.int 1)) (hG σ sr ln Lc μ) := by
  refine am_XR (d := d + 1) (C := cd_X12_does) (L := [some (.ref 47), some (.int (nI l)), none, none, none]) rfl rfl rfl rfl ?_
  refine am_g 3 5 [some (.ref 47), some (.int (nI l)), none, none, none] [.int (nI l), .ref 55] (hG σ sr ln Lc μ) rfl ?_
  refine am_ialdV (n := 40) (f := (μ 9)) (k := l) (w := (nI b)) rfl rfl (rfl) (by omega) (by decide) ((hRL.2.2.2.1 l hl).trans h1) ?_
  refine am_g 2 (if (nI b) = (-1) then 10 else 14) [some (.ref 47), some (.int (nI l)), none, none, none] [] (hG σ sr ln Lc μ) rfl ?_
  rw [if_neg (show ¬ (nI b) = (-1) from (nI_m1 (by omega)))]
  refine am_g 5 23 [some (.ref 47), some (.int (nI l)), none, none, none] [.int (nI l), .ref 55, .ref 68] (hG σ sr ln Lc μ) rfl ?_
  refine am_ialdV (n := 40) (f := (μ 9)) (k := l) (w := (nI b)) rfl rfl (rfl) (by omega) (by decide) ((hRL.2.2.2.1 l hl).trans h1) ?_
  refine am_ialdV (n := 20) (f := (μ 30)) (k := b) (w := (nI o)) rfl rfl (rfl) (by omega) (by decide) (hv) ?_
  refine am_g 4 31 [some (.ref 47), some (.int (nI l)), some (.int (nI o)), none, none] [.int (nI l), .ref 53] (hG σ sr ln Lc μ) rfl ?_
  refine am_ialdV (n := 40) (f := (μ 7)) (k := l) (w := 4) rfl rfl (rfl) (by omega) (by decide) ((hRL.2.1 l hl).trans (by rw [hs]; rfl)) ?_
  refine am_g 4 (if (nI o) = (-1) then 203 else 207) [some (.ref 47), some (.int (nI l)), some (.int (nI o)), none, none] [] (hG σ sr ln Lc μ) rfl ?_
  rw [if_neg (show ¬ (nI o) = (-1) from (nI_m1 (by omega)))]
  refine am_g 3 210 [some (.ref 47), some (.int (nI l)), some (.int (nI o)), none, none] [.int (nI o), .ref 47, .ref 47] (hG σ sr ln Lc μ) rfl ?_
  refine am_call (y := 154) (vs := [.ref 47, .int (nI o)]) (rest := [.ref 47]) (v := (some (.int (σ 4 o)))) (h1 := (hG σ sr ln Lc μ)) rfl rfl rfl (hko d) ?_
  refine am_g 3 218 [some (.ref 47), some (.int (nI l)), some (.int (nI o)), none, none] [.int (nI l), .ref 56, .int (σ 4 o), .ref 47] (hG σ sr ln Lc μ) rfl ?_
  refine am_ialdV (n := 40) (f := (μ 10)) (k := l) (w := (nI n)) rfl rfl (rfl) (by omega) (by decide) ((hRL.2.2.2.2.1 l hl).trans hn) ?_
  refine am_call (y := 147) (vs := [.ref 47, .int (σ 4 o), .int (nI n)]) (rest := []) (v := (some (.int (nI q)))) (h1 := (hG σ sr ln Lc μ)) rfl rfl rfl ((by have k := sp_X12_aimOf_s (σ := σ) (μ := μ) (xs := xs) (LL := LL) (sr := sr) (ln := ln) (Lc := Lc) d hRK.1 hRK.2.1 hab _ n hk4 hn3; rw [hg] at k; exact k)) ?_
  refine am_g 4 (if (nI q) = (-1) then 228 else 230) [some (.ref 47), some (.int (nI l)), some (.int (nI o)), some (.int (nI q)), none] [] (hG σ sr ln Lc μ) rfl ?_
  rw [if_neg (show ¬ (nI q) = (-1) from (nI_m1 (by omega)))]
  refine am_g 5 239 [some (.ref 47), some (.int (nI l)), some (.int (nI o)), some (.int (nI q)), none] [.int (nI l), .ref 57, .ref 68] (hG σ sr ln Lc μ) rfl ?_
  refine am_ialdV (n := 40) (f := (μ 11)) (k := l) (w := (nI z)) rfl rfl (rfl) (by omega) (by decide) (((hRL.2.2.2.2.2.1 l hl).trans (if_pos hs)).trans h7) ?_
  refine am_ialdR (n := 20) (f := (μ 30)) (k := z) rfl rfl (rfl) (by omega) (by decide) ?_
  refine am_g 4 248 [some (.ref 47), some (.int (nI l)), some (.int (nI o)), some (.int (nI q)), some (.int (μ 30 z))] [.int (nI q), .ref 50] (hG σ sr ln Lc μ) rfl ?_
  refine am_ialdV (n := 6) (f := (μ 4)) (k := q) (w := (-1)) rfl rfl (rfl) (by omega) (by decide) ((hRK.2.2.1 q hq).trans e0) ?_
  refine am_g 5 269 [some (.ref 47), some (.int (nI l)), some (.int (nI o)), some (.int (nI q)), some (.int (μ 30 z))] [.int (nI q), .ref 51] (hG σ sr ln Lc μ) rfl ?_
  refine am_ialdV (n := 6) (f := (μ 5)) (k := q) (w := (-1)) rfl rfl (rfl) (by omega) (by decide) ((hRK.2.2.2.1 q hq).trans e1) ?_
  refine am_g 5 291 [some (.ref 47), some (.int (nI l)), some (.int (nI o)), some (.int (nI q)), some (.int (μ 30 z))] [.int (nI q), .ref 52] (hG σ sr ln Lc μ) rfl ?_
  refine am_ialdV (n := 6) (f := (μ 6)) (k := q) (w := (-1)) rfl rfl (rfl) (by omega) (by decide) ((hRK.2.2.2.2.1 q hq).trans e2) ?_
  refine am_g 3 318 [some (.ref 47), some (.int (nI l)), some (.int (nI o)), some (.int (nI q)), some (.int (μ 30 z))] [.int 1] (hG σ sr ln Lc μ) rfl ?_
  exact am_ret2 rfl rfl rfl rfl rfl
theorem sp_X12_does_4y1 (d : Nat) (l : Nat) (hl : l < Lc) (hL40 : Lc ≤ 40) (hRL : am_RL sr ln Lc μ) (hs : sr l = 4) {a : Nat} (ha : a < 20) (h0 : ln l 0 = nI a) {b : Nat} (hb : b < 20) (h1 : ln l 1 = nI b) {n : Nat} (hn3 : n < 3) (hn : ln l 2 = nI n) {z : Nat} (hz : z < 20) (h7 : ln l 7 = nI z) {o : Nat} (ho : o < 16) (hv : μ 30 b = nI o) (hko : ∀ d, am_X xs LL (d + 1) 154 [.ref 47, .int (nI o)] (hG σ sr ln Lc μ) (some (.int (σ 4 o))) (hG σ sr ln Lc μ)) (hk4 : am_pl 8 (σ 4 o)) (hab : am_wab (σ 1)) (hRK : am_RK σ μ) {q : Nat} (hq : q < 6) (hg : (am_aimF (σ 1) (σ 2) n 9 (σ 4 o)) = nI q) {s0 : Nat} (hs0 : s0 < 20) (e0 : σ 3 (3 * q + 0) = nI s0) (e1 : σ 3 (3 * q + 1) = -1) (e2 : σ 3 (3 * q + 2) = -1) : am_X xs LL (d + 2) 197 [.ref 47, .int (nI l)] (hG σ sr ln Lc μ) (some (.int 1)) (hG σ sr ln Lc (am_up (am_up μ 30 (upd (μ 30) s0 (nI o))) 31 (upd (μ 31) s0 (((μ 31) s0) ||| am_bitM (nI o))))) := by
  refine am_XR (d := d + 1) (C := cd_X12_does) (L := [some (.ref 47), some (.int (nI l)), none, none, none]) rfl rfl rfl rfl ?_
  refine am_g 3 5 [some (.ref 47), some (.int (nI l)), none, none, none] [.int (nI l), .ref 55] (hG σ sr ln Lc μ) rfl ?_
  refine am_ialdV (n := 40) (f := (μ 9)) (k := l) (w := (nI b)) rfl rfl (rfl) (by omega) (by decide) ((hRL.2.2.2.1 l hl).trans h1) ?_
  refine am_g 2 (if (nI b) = (-1) then 10 else 14) [some (.ref 47), some (.int (nI l)), none, none, none] [] (hG σ sr ln Lc μ) rfl ?_
  rw [if_neg (show ¬ (nI b) = (-1) from (nI_m1 (by omega)))]
  refine am_g 5 23 [some (.ref 47), some (.int (nI l)), none, none, none] [.int (nI l), .ref 55, .ref 68] (hG σ sr ln Lc μ) rfl ?_
  refine am_ialdV (n := 40) (f := (μ 9)) (k := l) (w := (nI b)) rfl rfl (rfl) (by omega) (by decide) ((hRL.2.2.2.1 l hl).trans h1) ?_
  refine am_ialdV (n := 20) (f := (μ 30)) (k := b) (w := (nI o)) rfl rfl (rfl) (by omega) (by decide) (hv) ?_
  refine am_g 4 31 [some (.ref 47), some (.int (nI l)), some (.int (nI o)), none, none] [.int (nI l), .ref 53] (hG σ sr ln Lc μ) rfl ?_
  refine am_ialdV (n := 40) (f := (μ 7)) (k := l) (w := 4) rfl rfl (rfl) (by omega) (by decide) ((hRL.2.1 l hl).trans (by rw [hs]; rfl)) ?_
  refine am_g 4 (if (nI o) = (-1) then 203 else 207) [some (.ref 47), some (.int (nI l)), some (.int (nI o)), none, none] [] (hG σ sr ln Lc μ) rfl ?_
  rw [if_neg (show ¬ (nI o) = (-1) from (nI_m1 (by omega)))]
  refine am_g 3 210 [some (.ref 47), some (.int (nI l)), some (.int (nI o)), none, none] [.int (nI o), .ref 47, .ref 47] (hG σ sr ln Lc μ) rfl ?_
  refine am_call (y := 154) (vs := [.ref 47, .int (nI o)]) (rest := [.ref 47]) (v := (some (.int (σ 4 o)))) (h1 := (hG σ sr ln Lc μ)) rfl rfl rfl (hko d) ?_
  refine am_g 3 218 [some (.ref 47), some (.int (nI l)), some (.int (nI o)), none, none] [.int (nI l), .ref 56, .int (σ 4 o), .ref 47] (hG σ sr ln Lc μ) rfl ?_
  refine am_ialdV (n := 40) (f := (μ 10)) (k := l) (w := (nI n)) rfl rfl (rfl) (by omega) (by decide) ((hRL.2.2.2.2.1 l hl).trans hn) ?_
  refine am_call (y := 147) (vs := [.ref 47, .int (σ 4 o), .int (nI n)]) (rest := []) (v := (some (.int (nI q)))) (h1 := (hG σ sr ln Lc μ)) rfl rfl rfl ((by have k := sp_X12_aimOf_s (σ := σ) (μ := μ) (xs := xs) (LL := LL) (sr := sr) (ln := ln) (Lc := Lc) d hRK.1 hRK.2.1 hab _ n hk4 hn3; rw [hg] at k; exact k)) ?_
  refine am_g 4 (if (nI q) = (-1) then 228 else 230) [some (.ref 47), some (.int (nI l)), some (.int (nI o)), some (.int (nI q)), none] [] (hG σ sr ln Lc μ) rfl ?_
  rw [if_neg (show ¬ (nI q) = (-1) from (nI_m1 (by omega)))]
  refine am_g 5 239 [some (.ref 47), some (.int (nI l)), some (.int (nI o)), some (.int (nI q)), none] [.int (nI l), .ref 57, .ref 68] (hG σ sr ln Lc μ) rfl ?_
  refine am_ialdV (n := 40) (f := (μ 11)) (k := l) (w := (nI z)) rfl rfl (rfl) (by omega) (by decide) (((hRL.2.2.2.2.2.1 l hl).trans (if_pos hs)).trans h7) ?_
  refine am_ialdR (n := 20) (f := (μ 30)) (k := z) rfl rfl (rfl) (by omega) (by decide) ?_
  refine am_g 4 248 [some (.ref 47), some (.int (nI l)), some (.int (nI o)), some (.int (nI q)), some (.int (μ 30 z))] [.int (nI q), .ref 50] (hG σ sr ln Lc μ) rfl ?_
  refine am_ialdV (n := 6) (f := (μ 4)) (k := q) (w := (nI s0)) rfl rfl (rfl) (by omega) (by decide) ((hRK.2.2.1 q hq).trans e0) ?_
  refine am_g 2 (if (nI s0) = (-1) then 264 else 253) [some (.ref 47), some (.int (nI l)), some (.int (nI o)), some (.int (nI q)), some (.int (μ 30 z))] [] (hG σ sr ln Lc μ) rfl ?_
  rw [if_neg (show ¬ (nI s0) = (-1) from (nI_m1 (by omega)))]
  refine am_g 4 259 [some (.ref 47), some (.int (nI l)), some (.int (nI o)), some (.int (nI q)), some (.int (μ 30 z))] [.int (nI q), .ref 50, .ref 47] (hG σ sr ln Lc μ) rfl ?_
  refine am_ialdV (n := 6) (f := (μ 4)) (k := q) (w := (nI s0)) rfl rfl (rfl) (by omega) (by decide) ((hRK.2.2.1 q hq).trans e0) ?_
  refine am_g 1 261 [some (.ref 47), some (.int (nI l)), some (.int (nI o)), some (.int (nI q)), some (.int (μ 30 z))] [.int (nI o), .int (nI s0), .ref 47] (hG σ sr ln Lc μ) rfl ?_
  refine am_call (y := 196) (vs := [.ref 47, .int (nI s0), .int (nI o)]) (rest := []) (v := none) (h1 := (hG σ sr ln Lc (am_up (am_up μ 30 (upd (μ 30) s0 (nI o))) 31 (upd (μ 31) s0 (((μ 31) s0) ||| am_bitM (nI o)))))) rfl rfl rfl (sp_X12_gets (σ := σ) (μ := μ) d s0 (by omega) _) ?_
  refine am_g 3 269 [some (.ref 47), some (.int (nI l)), some (.int (nI o)), some (.int (nI q)), some (.int (μ 30 z))] [.int (nI q), .ref 51] (hG σ sr ln Lc (am_up (am_up μ 30 (upd (μ 30) s0 (nI o))) 31 (upd (μ 31) s0 (((μ 31) s0) ||| am_bitM (nI o))))) rfl ?_
  refine am_ialdV (n := 6) (f := (μ 5)) (k := q) (w := (-1)) rfl rfl (rfl) (by omega) (by decide) ((hRK.2.2.2.1 q hq).trans e1) ?_
  refine am_g 5 291 [some (.ref 47), some (.int (nI l)), some (.int (nI o)), some (.int (nI q)), some (.int (μ 30 z))] [.int (nI q), .ref 52] (hG σ sr ln Lc (am_up (am_up μ 30 (upd (μ 30) s0 (nI o))) 31 (upd (μ 31) s0 (((μ 31) s0) ||| am_bitM (nI o))))) rfl ?_
  refine am_ialdV (n := 6) (f := (μ 6)) (k := q) (w := (-1)) rfl rfl (rfl) (by omega) (by decide) ((hRK.2.2.2.2.1 q hq).trans e2) ?_
  refine am_g 3 318 [some (.ref 47), some (.int (nI l)), some (.int (nI o)), some (.int (nI q)), some (.int (μ 30 z))] [.int 1] (hG σ sr ln Lc (am_up (am_up μ 30 (upd (μ 30) s0 (nI o))) 31 (upd (μ 31) s0 (((μ 31) s0) ||| am_bitM (nI o))))) rfl ?_
  exact am_ret2 rfl rfl rfl rfl rfl
theorem sp_X12_does_4y2 (d : Nat) (l : Nat) (hl : l < Lc) (hL40 : Lc ≤ 40) (hRL : am_RL sr ln Lc μ) (hs : sr l = 4) {a : Nat} (ha : a < 20) (h0 : ln l 0 = nI a) {b : Nat} (hb : b < 20) (h1 : ln l 1 = nI b) {n : Nat} (hn3 : n < 3) (hn : ln l 2 = nI n) {z : Nat} (hz : z < 20) (h7 : ln l 7 = nI z) {o : Nat} (ho : o < 16) (hv : μ 30 b = nI o) (hko : ∀ d, am_X xs LL (d + 1) 154 [.ref 47, .int (nI o)] (hG σ sr ln Lc μ) (some (.int (σ 4 o))) (hG σ sr ln Lc μ)) (hk4 : am_pl 8 (σ 4 o)) (hab : am_wab (σ 1)) (hRK : am_RK σ μ) {q : Nat} (hq : q < 6) (hg : (am_aimF (σ 1) (σ 2) n 9 (σ 4 o)) = nI q) (e0 : σ 3 (3 * q + 0) = -1) {s1 : Nat} (hs1 : s1 < 20) (e1 : σ 3 (3 * q + 1) = nI s1) (e2 : σ 3 (3 * q + 2) = -1) : am_X xs LL (d + 2) 197 [.ref 47, .int (nI l)] (hG σ sr ln Lc μ) (some (.int 1)) (hG σ sr ln Lc (am_up (am_up μ 30 (upd (μ 30) s1 (μ 30 z))) 31 (upd (μ 31) s1 (((μ 31) s1) ||| am_bitM (μ 30 z))))) := by
  refine am_XR (d := d + 1) (C := cd_X12_does) (L := [some (.ref 47), some (.int (nI l)), none, none, none]) rfl rfl rfl rfl ?_
  refine am_g 3 5 [some (.ref 47), some (.int (nI l)), none, none, none] [.int (nI l), .ref 55] (hG σ sr ln Lc μ) rfl ?_
  refine am_ialdV (n := 40) (f := (μ 9)) (k := l) (w := (nI b)) rfl rfl (rfl) (by omega) (by decide) ((hRL.2.2.2.1 l hl).trans h1) ?_
  refine am_g 2 (if (nI b) = (-1) then 10 else 14) [some (.ref 47), some (.int (nI l)), none, none, none] [] (hG σ sr ln Lc μ) rfl ?_
  rw [if_neg (show ¬ (nI b) = (-1) from (nI_m1 (by omega)))]
  refine am_g 5 23 [some (.ref 47), some (.int (nI l)), none, none, none] [.int (nI l), .ref 55, .ref 68] (hG σ sr ln Lc μ) rfl ?_
  refine am_ialdV (n := 40) (f := (μ 9)) (k := l) (w := (nI b)) rfl rfl (rfl) (by omega) (by decide) ((hRL.2.2.2.1 l hl).trans h1) ?_
  refine am_ialdV (n := 20) (f := (μ 30)) (k := b) (w := (nI o)) rfl rfl (rfl) (by omega) (by decide) (hv) ?_
  refine am_g 4 31 [some (.ref 47), some (.int (nI l)), some (.int (nI o)), none, none] [.int (nI l), .ref 53] (hG σ sr ln Lc μ) rfl ?_
  refine am_ialdV (n := 40) (f := (μ 7)) (k := l) (w := 4) rfl rfl (rfl) (by omega) (by decide) ((hRL.2.1 l hl).trans (by rw [hs]; rfl)) ?_
  refine am_g 4 (if (nI o) = (-1) then 203 else 207) [some (.ref 47), some (.int (nI l)), some (.int (nI o)), none, none] [] (hG σ sr ln Lc μ) rfl ?_
  rw [if_neg (show ¬ (nI o) = (-1) from (nI_m1 (by omega)))]
  refine am_g 3 210 [some (.ref 47), some (.int (nI l)), some (.int (nI o)), none, none] [.int (nI o), .ref 47, .ref 47] (hG σ sr ln Lc μ) rfl ?_
  refine am_call (y := 154) (vs := [.ref 47, .int (nI o)]) (rest := [.ref 47]) (v := (some (.int (σ 4 o)))) (h1 := (hG σ sr ln Lc μ)) rfl rfl rfl (hko d) ?_
  refine am_g 3 218 [some (.ref 47), some (.int (nI l)), some (.int (nI o)), none, none] [.int (nI l), .ref 56, .int (σ 4 o), .ref 47] (hG σ sr ln Lc μ) rfl ?_
  refine am_ialdV (n := 40) (f := (μ 10)) (k := l) (w := (nI n)) rfl rfl (rfl) (by omega) (by decide) ((hRL.2.2.2.2.1 l hl).trans hn) ?_
  refine am_call (y := 147) (vs := [.ref 47, .int (σ 4 o), .int (nI n)]) (rest := []) (v := (some (.int (nI q)))) (h1 := (hG σ sr ln Lc μ)) rfl rfl rfl ((by have k := sp_X12_aimOf_s (σ := σ) (μ := μ) (xs := xs) (LL := LL) (sr := sr) (ln := ln) (Lc := Lc) d hRK.1 hRK.2.1 hab _ n hk4 hn3; rw [hg] at k; exact k)) ?_
  refine am_g 4 (if (nI q) = (-1) then 228 else 230) [some (.ref 47), some (.int (nI l)), some (.int (nI o)), some (.int (nI q)), none] [] (hG σ sr ln Lc μ) rfl ?_
  rw [if_neg (show ¬ (nI q) = (-1) from (nI_m1 (by omega)))]
  refine am_g 5 239 [some (.ref 47), some (.int (nI l)), some (.int (nI o)), some (.int (nI q)), none] [.int (nI l), .ref 57, .ref 68] (hG σ sr ln Lc μ) rfl ?_
  refine am_ialdV (n := 40) (f := (μ 11)) (k := l) (w := (nI z)) rfl rfl (rfl) (by omega) (by decide) (((hRL.2.2.2.2.2.1 l hl).trans (if_pos hs)).trans h7) ?_
  refine am_ialdR (n := 20) (f := (μ 30)) (k := z) rfl rfl (rfl) (by omega) (by decide) ?_
  refine am_g 4 248 [some (.ref 47), some (.int (nI l)), some (.int (nI o)), some (.int (nI q)), some (.int (μ 30 z))] [.int (nI q), .ref 50] (hG σ sr ln Lc μ) rfl ?_
  refine am_ialdV (n := 6) (f := (μ 4)) (k := q) (w := (-1)) rfl rfl (rfl) (by omega) (by decide) ((hRK.2.2.1 q hq).trans e0) ?_
  refine am_g 5 269 [some (.ref 47), some (.int (nI l)), some (.int (nI o)), some (.int (nI q)), some (.int (μ 30 z))] [.int (nI q), .ref 51] (hG σ sr ln Lc μ) rfl ?_
  refine am_ialdV (n := 6) (f := (μ 5)) (k := q) (w := (nI s1)) rfl rfl (rfl) (by omega) (by decide) ((hRK.2.2.2.1 q hq).trans e1) ?_
  refine am_g 2 (if (nI s1) = (-1) then 286 else 274) [some (.ref 47), some (.int (nI l)), some (.int (nI o)), some (.int (nI q)), some (.int (μ 30 z))] [] (hG σ sr ln Lc μ) rfl ?_
  rw [if_neg (show ¬ (nI s1) = (-1) from (nI_m1 (by omega)))]
  refine am_g 4 280 [some (.ref 47), some (.int (nI l)), some (.int (nI o)), some (.int (nI q)), some (.int (μ 30 z))] [.int (nI q), .ref 51, .ref 47] (hG σ sr ln Lc μ) rfl ?_
  refine am_ialdV (n := 6) (f := (μ 5)) (k := q) (w := (nI s1)) rfl rfl (rfl) (by omega) (by decide) ((hRK.2.2.2.1 q hq).trans e1) ?_
  refine am_g 1 283 [some (.ref 47), some (.int (nI l)), some (.int (nI o)), some (.int (nI q)), some (.int (μ 30 z))] [.int (μ 30 z), .int (nI s1), .ref 47] (hG σ sr ln Lc μ) rfl ?_
  refine am_call (y := 196) (vs := [.ref 47, .int (nI s1), .int (μ 30 z)]) (rest := []) (v := none) (h1 := (hG σ sr ln Lc (am_up (am_up μ 30 (upd (μ 30) s1 (μ 30 z))) 31 (upd (μ 31) s1 (((μ 31) s1) ||| am_bitM (μ 30 z)))))) rfl rfl rfl (sp_X12_gets (σ := σ) (μ := μ) d s1 (by omega) _) ?_
  refine am_g 3 291 [some (.ref 47), some (.int (nI l)), some (.int (nI o)), some (.int (nI q)), some (.int (μ 30 z))] [.int (nI q), .ref 52] (hG σ sr ln Lc (am_up (am_up μ 30 (upd (μ 30) s1 (μ 30 z))) 31 (upd (μ 31) s1 (((μ 31) s1) ||| am_bitM (μ 30 z))))) rfl ?_
  refine am_ialdV (n := 6) (f := (μ 6)) (k := q) (w := (-1)) rfl rfl (rfl) (by omega) (by decide) ((hRK.2.2.2.2.1 q hq).trans e2) ?_
  refine am_g 3 318 [some (.ref 47), some (.int (nI l)), some (.int (nI o)), some (.int (nI q)), some (.int (μ 30 z))] [.int 1] (hG σ sr ln Lc (am_up (am_up μ 30 (upd (μ 30) s1 (μ 30 z))) 31 (upd (μ 31) s1 (((μ 31) s1) ||| am_bitM (μ 30 z))))) rfl ?_
  exact am_ret2 rfl rfl rfl rfl rfl
theorem sp_X12_does_4y3 (d : Nat) (l : Nat) (hl : l < Lc) (hL40 : Lc ≤ 40) (hRL : am_RL sr ln Lc μ) (hs : sr l = 4) {a : Nat} (ha : a < 20) (h0 : ln l 0 = nI a) {b : Nat} (hb : b < 20) (h1 : ln l 1 = nI b) {n : Nat} (hn3 : n < 3) (hn : ln l 2 = nI n) {z : Nat} (hz : z < 20) (h7 : ln l 7 = nI z) {o : Nat} (ho : o < 16) (hv : μ 30 b = nI o) (hko : ∀ d, am_X xs LL (d + 1) 154 [.ref 47, .int (nI o)] (hG σ sr ln Lc μ) (some (.int (σ 4 o))) (hG σ sr ln Lc μ)) (hk4 : am_pl 8 (σ 4 o)) (hab : am_wab (σ 1)) (hRK : am_RK σ μ) {q : Nat} (hq : q < 6) (hg : (am_aimF (σ 1) (σ 2) n 9 (σ 4 o)) = nI q) {s0 : Nat} (hs0 : s0 < 20) (e0 : σ 3 (3 * q + 0) = nI s0) {s1 : Nat} (hs1 : s1 < 20) (e1 : σ 3 (3 * q + 1) = nI s1) (e2 : σ 3 (3 * q + 2) = -1) : am_X xs LL (d + 2) 197 [.ref 47, .int (nI l)] (hG σ sr ln Lc μ) (some (.int 1)) (hG σ sr ln Lc (am_up (am_up μ 30 (upd (upd (μ 30) s0 (nI o)) s1 (μ 30 z))) 31 (upd (upd (μ 31) s0 (((μ 31) s0) ||| am_bitM (nI o))) s1 (((upd (μ 31) s0 (((μ 31) s0) ||| am_bitM (nI o))) s1) ||| am_bitM (μ 30 z))))) := by
  refine am_XR (d := d + 1) (C := cd_X12_does) (L := [some (.ref 47), some (.int (nI l)), none, none, none]) rfl rfl rfl rfl ?_
  refine am_g 3 5 [some (.ref 47), some (.int (nI l)), none, none, none] [.int (nI l), .ref 55] (hG σ sr ln Lc μ) rfl ?_
  refine am_ialdV (n := 40) (f := (μ 9)) (k := l) (w := (nI b)) rfl rfl (rfl) (by omega) (by decide) ((hRL.2.2.2.1 l hl).trans h1) ?_
  refine am_g 2 (if (nI b) = (-1) then 10 else 14) [some (.ref 47), some (.int (nI l)), none, none, none] [] (hG σ sr ln Lc μ) rfl ?_
  rw [if_neg (show ¬ (nI b) = (-1) from (nI_m1 (by omega)))]
  refine am_g 5 23 [some (.ref 47), some (.int (nI l)), none, none, none] [.int (nI l), .ref 55, .ref 68] (hG σ sr ln Lc μ) rfl ?_
  refine am_ialdV (n := 40) (f := (μ 9)) (k := l) (w := (nI b)) rfl rfl (rfl) (by omega) (by decide) ((hRL.2.2.2.1 l hl).trans h1) ?_
  refine am_ialdV (n := 20) (f := (μ 30)) (k := b) (w := (nI o)) rfl rfl (rfl) (by omega) (by decide) (hv) ?_
  refine am_g 4 31 [some (.ref 47), some (.int (nI l)), some (.int (nI o)), none, none] [.int (nI l), .ref 53] (hG σ sr ln Lc μ) rfl ?_
  refine am_ialdV (n := 40) (f := (μ 7)) (k := l) (w := 4) rfl rfl (rfl) (by omega) (by decide) ((hRL.2.1 l hl).trans (by rw [hs]; rfl)) ?_
  refine am_g 4 (if (nI o) = (-1) then 203 else 207) [some (.ref 47), some (.int (nI l)), some (.int (nI o)), none, none] [] (hG σ sr ln Lc μ) rfl ?_
  rw [if_neg (show ¬ (nI o) = (-1) from (nI_m1 (by omega)))]
  refine am_g 3 210 [some (.ref 47), some (.int (nI l)), some (.int (nI o)), none, none] [.int (nI o), .ref 47, .ref 47] (hG σ sr ln Lc μ) rfl ?_
  refine am_call (y := 154) (vs := [.ref 47, .int (nI o)]) (rest := [.ref 47]) (v := (some (.int (σ 4 o)))) (h1 := (hG σ sr ln Lc μ)) rfl rfl rfl (hko d) ?_
  refine am_g 3 218 [some (.ref 47), some (.int (nI l)), some (.int (nI o)), none, none] [.int (nI l), .ref 56, .int (σ 4 o), .ref 47] (hG σ sr ln Lc μ) rfl ?_
  refine am_ialdV (n := 40) (f := (μ 10)) (k := l) (w := (nI n)) rfl rfl (rfl) (by omega) (by decide) ((hRL.2.2.2.2.1 l hl).trans hn) ?_
  refine am_call (y := 147) (vs := [.ref 47, .int (σ 4 o), .int (nI n)]) (rest := []) (v := (some (.int (nI q)))) (h1 := (hG σ sr ln Lc μ)) rfl rfl rfl ((by have k := sp_X12_aimOf_s (σ := σ) (μ := μ) (xs := xs) (LL := LL) (sr := sr) (ln := ln) (Lc := Lc) d hRK.1 hRK.2.1 hab _ n hk4 hn3; rw [hg] at k; exact k)) ?_
  refine am_g 4 (if (nI q) = (-1) then 228 else 230) [some (.ref 47), some (.int (nI l)), some (.int (nI o)), some (.int (nI q)), none] [] (hG σ sr ln Lc μ) rfl ?_
  rw [if_neg (show ¬ (nI q) = (-1) from (nI_m1 (by omega)))]
  refine am_g 5 239 [some (.ref 47), some (.int (nI l)), some (.int (nI o)), some (.int (nI q)), none] [.int (nI l), .ref 57, .ref 68] (hG σ sr ln Lc μ) rfl ?_
  refine am_ialdV (n := 40) (f := (μ 11)) (k := l) (w := (nI z)) rfl rfl (rfl) (by omega) (by decide) (((hRL.2.2.2.2.2.1 l hl).trans (if_pos hs)).trans h7) ?_
  refine am_ialdR (n := 20) (f := (μ 30)) (k := z) rfl rfl (rfl) (by omega) (by decide) ?_
  refine am_g 4 248 [some (.ref 47), some (.int (nI l)), some (.int (nI o)), some (.int (nI q)), some (.int (μ 30 z))] [.int (nI q), .ref 50] (hG σ sr ln Lc μ) rfl ?_
  refine am_ialdV (n := 6) (f := (μ 4)) (k := q) (w := (nI s0)) rfl rfl (rfl) (by omega) (by decide) ((hRK.2.2.1 q hq).trans e0) ?_
  refine am_g 2 (if (nI s0) = (-1) then 264 else 253) [some (.ref 47), some (.int (nI l)), some (.int (nI o)), some (.int (nI q)), some (.int (μ 30 z))] [] (hG σ sr ln Lc μ) rfl ?_
  rw [if_neg (show ¬ (nI s0) = (-1) from (nI_m1 (by omega)))]
  refine am_g 4 259 [some (.ref 47), some (.int (nI l)), some (.int (nI o)), some (.int (nI q)), some (.int (μ 30 z))] [.int (nI q), .ref 50, .ref 47] (hG σ sr ln Lc μ) rfl ?_
  refine am_ialdV (n := 6) (f := (μ 4)) (k := q) (w := (nI s0)) rfl rfl (rfl) (by omega) (by decide) ((hRK.2.2.1 q hq).trans e0) ?_
  refine am_g 1 261 [some (.ref 47), some (.int (nI l)), some (.int (nI o)), some (.int (nI q)), some (.int (μ 30 z))] [.int (nI o), .int (nI s0), .ref 47] (hG σ sr ln Lc μ) rfl ?_
  refine am_call (y := 196) (vs := [.ref 47, .int (nI s0), .int (nI o)]) (rest := []) (v := none) (h1 := (hG σ sr ln Lc (am_up (am_up μ 30 (upd (μ 30) s0 (nI o))) 31 (upd (μ 31) s0 (((μ 31) s0) ||| am_bitM (nI o)))))) rfl rfl rfl (sp_X12_gets (σ := σ) (μ := μ) d s0 (by omega) _) ?_
  refine am_g 3 269 [some (.ref 47), some (.int (nI l)), some (.int (nI o)), some (.int (nI q)), some (.int (μ 30 z))] [.int (nI q), .ref 51] (hG σ sr ln Lc (am_up (am_up μ 30 (upd (μ 30) s0 (nI o))) 31 (upd (μ 31) s0 (((μ 31) s0) ||| am_bitM (nI o))))) rfl ?_
  refine am_ialdV (n := 6) (f := (μ 5)) (k := q) (w := (nI s1)) rfl rfl (rfl) (by omega) (by decide) ((hRK.2.2.2.1 q hq).trans e1) ?_
  refine am_g 2 (if (nI s1) = (-1) then 286 else 274) [some (.ref 47), some (.int (nI l)), some (.int (nI o)), some (.int (nI q)), some (.int (μ 30 z))] [] (hG σ sr ln Lc (am_up (am_up μ 30 (upd (μ 30) s0 (nI o))) 31 (upd (μ 31) s0 (((μ 31) s0) ||| am_bitM (nI o))))) rfl ?_
  rw [if_neg (show ¬ (nI s1) = (-1) from (nI_m1 (by omega)))]
  refine am_g 4 280 [some (.ref 47), some (.int (nI l)), some (.int (nI o)), some (.int (nI q)), some (.int (μ 30 z))] [.int (nI q), .ref 51, .ref 47] (hG σ sr ln Lc (am_up (am_up μ 30 (upd (μ 30) s0 (nI o))) 31 (upd (μ 31) s0 (((μ 31) s0) ||| am_bitM (nI o))))) rfl ?_
  refine am_ialdV (n := 6) (f := (μ 5)) (k := q) (w := (nI s1)) rfl rfl (rfl) (by omega) (by decide) ((hRK.2.2.2.1 q hq).trans e1) ?_
  refine am_g 1 283 [some (.ref 47), some (.int (nI l)), some (.int (nI o)), some (.int (nI q)), some (.int (μ 30 z))] [.int (μ 30 z), .int (nI s1), .ref 47] (hG σ sr ln Lc (am_up (am_up μ 30 (upd (μ 30) s0 (nI o))) 31 (upd (μ 31) s0 (((μ 31) s0) ||| am_bitM (nI o))))) rfl ?_
  refine am_call (y := 196) (vs := [.ref 47, .int (nI s1), .int (μ 30 z)]) (rest := []) (v := none) (h1 := (hG σ sr ln Lc (am_up (am_up μ 30 (upd (upd (μ 30) s0 (nI o)) s1 (μ 30 z))) 31 (upd (upd (μ 31) s0 (((μ 31) s0) ||| am_bitM (nI o))) s1 (((upd (μ 31) s0 (((μ 31) s0) ||| am_bitM (nI o))) s1) ||| am_bitM (μ 30 z)))))) rfl rfl rfl (sp_X12_gets (σ := σ) (μ := (am_up (am_up μ 30 (upd (μ 30) s0 (nI o))) 31 (upd (μ 31) s0 (((μ 31) s0) ||| am_bitM (nI o))))) d s1 (by omega) _) ?_
  refine am_g 3 291 [some (.ref 47), some (.int (nI l)), some (.int (nI o)), some (.int (nI q)), some (.int (μ 30 z))] [.int (nI q), .ref 52] (hG σ sr ln Lc (am_up (am_up μ 30 (upd (upd (μ 30) s0 (nI o)) s1 (μ 30 z))) 31 (upd (upd (μ 31) s0 (((μ 31) s0) ||| am_bitM (nI o))) s1 (((upd (μ 31) s0 (((μ 31) s0) ||| am_bitM (nI o))) s1) ||| am_bitM (μ 30 z))))) rfl ?_
  refine am_ialdV (n := 6) (f := (μ 6)) (k := q) (w := (-1)) rfl rfl (rfl) (by omega) (by decide) ((hRK.2.2.2.2.1 q hq).trans e2) ?_
  refine am_g 3 318 [some (.ref 47), some (.int (nI l)), some (.int (nI o)), some (.int (nI q)), some (.int (μ 30 z))] [.int 1] (hG σ sr ln Lc (am_up (am_up μ 30 (upd (upd (μ 30) s0 (nI o)) s1 (μ 30 z))) 31 (upd (upd (μ 31) s0 (((μ 31) s0) ||| am_bitM (nI o))) s1 (((upd (μ 31) s0 (((μ 31) s0) ||| am_bitM (nI o))) s1) ||| am_bitM (μ 30 z))))) rfl ?_
  exact am_ret2 rfl rfl rfl rfl rfl
theorem sp_X12_does_4y4 (d : Nat) (l : Nat) (hl : l < Lc) (hL40 : Lc ≤ 40) (hRL : am_RL sr ln Lc μ) (hs : sr l = 4) {a : Nat} (ha : a < 20) (h0 : ln l 0 = nI a) {b : Nat} (hb : b < 20) (h1 : ln l 1 = nI b) {n : Nat} (hn3 : n < 3) (hn : ln l 2 = nI n) {z : Nat} (hz : z < 20) (h7 : ln l 7 = nI z) {o : Nat} (ho : o < 16) (hv : μ 30 b = nI o) (hko : ∀ d, am_X xs LL (d + 1) 154 [.ref 47, .int (nI o)] (hG σ sr ln Lc μ) (some (.int (σ 4 o))) (hG σ sr ln Lc μ)) (hk4 : am_pl 8 (σ 4 o)) (hab : am_wab (σ 1)) (hRK : am_RK σ μ) {q : Nat} (hq : q < 6) (hg : (am_aimF (σ 1) (σ 2) n 9 (σ 4 o)) = nI q) (e0 : σ 3 (3 * q + 0) = -1) (e1 : σ 3 (3 * q + 1) = -1) {s2 : Nat} (hs2 : s2 < 20) (e2 : σ 3 (3 * q + 2) = nI s2) : am_X xs LL (d + 2) 197 [.ref 47, .int (nI l)] (hG σ sr ln Lc μ) (some (.int 1)) (hG σ sr ln Lc (am_up (am_up μ 30 (upd (μ 30) a (μ 30 s2))) 31 (upd (μ 31) a (((μ 31) a) ||| am_bitM (μ 30 s2))))) := by
  refine am_XR (d := d + 1) (C := cd_X12_does) (L := [some (.ref 47), some (.int (nI l)), none, none, none]) rfl rfl rfl rfl ?_
  refine am_g 3 5 [some (.ref 47), some (.int (nI l)), none, none, none] [.int (nI l), .ref 55] (hG σ sr ln Lc μ) rfl ?_
  refine am_ialdV (n := 40) (f := (μ 9)) (k := l) (w := (nI b)) rfl rfl (rfl) (by omega) (by decide) ((hRL.2.2.2.1 l hl).trans h1) ?_
  refine am_g 2 (if (nI b) = (-1) then 10 else 14) [some (.ref 47), some (.int (nI l)), none, none, none] [] (hG σ sr ln Lc μ) rfl ?_
  rw [if_neg (show ¬ (nI b) = (-1) from (nI_m1 (by omega)))]
  refine am_g 5 23 [some (.ref 47), some (.int (nI l)), none, none, none] [.int (nI l), .ref 55, .ref 68] (hG σ sr ln Lc μ) rfl ?_
  refine am_ialdV (n := 40) (f := (μ 9)) (k := l) (w := (nI b)) rfl rfl (rfl) (by omega) (by decide) ((hRL.2.2.2.1 l hl).trans h1) ?_
  refine am_ialdV (n := 20) (f := (μ 30)) (k := b) (w := (nI o)) rfl rfl (rfl) (by omega) (by decide) (hv) ?_
  refine am_g 4 31 [some (.ref 47), some (.int (nI l)), some (.int (nI o)), none, none] [.int (nI l), .ref 53] (hG σ sr ln Lc μ) rfl ?_
  refine am_ialdV (n := 40) (f := (μ 7)) (k := l) (w := 4) rfl rfl (rfl) (by omega) (by decide) ((hRL.2.1 l hl).trans (by rw [hs]; rfl)) ?_
  refine am_g 4 (if (nI o) = (-1) then 203 else 207) [some (.ref 47), some (.int (nI l)), some (.int (nI o)), none, none] [] (hG σ sr ln Lc μ) rfl ?_
  rw [if_neg (show ¬ (nI o) = (-1) from (nI_m1 (by omega)))]
  refine am_g 3 210 [some (.ref 47), some (.int (nI l)), some (.int (nI o)), none, none] [.int (nI o), .ref 47, .ref 47] (hG σ sr ln Lc μ) rfl ?_
  refine am_call (y := 154) (vs := [.ref 47, .int (nI o)]) (rest := [.ref 47]) (v := (some (.int (σ 4 o)))) (h1 := (hG σ sr ln Lc μ)) rfl rfl rfl (hko d) ?_
  refine am_g 3 218 [some (.ref 47), some (.int (nI l)), some (.int (nI o)), none, none] [.int (nI l), .ref 56, .int (σ 4 o), .ref 47] (hG σ sr ln Lc μ) rfl ?_
  refine am_ialdV (n := 40) (f := (μ 10)) (k := l) (w := (nI n)) rfl rfl (rfl) (by omega) (by decide) ((hRL.2.2.2.2.1 l hl).trans hn) ?_
  refine am_call (y := 147) (vs := [.ref 47, .int (σ 4 o), .int (nI n)]) (rest := []) (v := (some (.int (nI q)))) (h1 := (hG σ sr ln Lc μ)) rfl rfl rfl ((by have k := sp_X12_aimOf_s (σ := σ) (μ := μ) (xs := xs) (LL := LL) (sr := sr) (ln := ln) (Lc := Lc) d hRK.1 hRK.2.1 hab _ n hk4 hn3; rw [hg] at k; exact k)) ?_
  refine am_g 4 (if (nI q) = (-1) then 228 else 230) [some (.ref 47), some (.int (nI l)), some (.int (nI o)), some (.int (nI q)), none] [] (hG σ sr ln Lc μ) rfl ?_
  rw [if_neg (show ¬ (nI q) = (-1) from (nI_m1 (by omega)))]
  refine am_g 5 239 [some (.ref 47), some (.int (nI l)), some (.int (nI o)), some (.int (nI q)), none] [.int (nI l), .ref 57, .ref 68] (hG σ sr ln Lc μ) rfl ?_
  refine am_ialdV (n := 40) (f := (μ 11)) (k := l) (w := (nI z)) rfl rfl (rfl) (by omega) (by decide) (((hRL.2.2.2.2.2.1 l hl).trans (if_pos hs)).trans h7) ?_
  refine am_ialdR (n := 20) (f := (μ 30)) (k := z) rfl rfl (rfl) (by omega) (by decide) ?_
  refine am_g 4 248 [some (.ref 47), some (.int (nI l)), some (.int (nI o)), some (.int (nI q)), some (.int (μ 30 z))] [.int (nI q), .ref 50] (hG σ sr ln Lc μ) rfl ?_
  refine am_ialdV (n := 6) (f := (μ 4)) (k := q) (w := (-1)) rfl rfl (rfl) (by omega) (by decide) ((hRK.2.2.1 q hq).trans e0) ?_
  refine am_g 5 269 [some (.ref 47), some (.int (nI l)), some (.int (nI o)), some (.int (nI q)), some (.int (μ 30 z))] [.int (nI q), .ref 51] (hG σ sr ln Lc μ) rfl ?_
  refine am_ialdV (n := 6) (f := (μ 5)) (k := q) (w := (-1)) rfl rfl (rfl) (by omega) (by decide) ((hRK.2.2.2.1 q hq).trans e1) ?_
  refine am_g 5 291 [some (.ref 47), some (.int (nI l)), some (.int (nI o)), some (.int (nI q)), some (.int (μ 30 z))] [.int (nI q), .ref 52] (hG σ sr ln Lc μ) rfl ?_
  refine am_ialdV (n := 6) (f := (μ 6)) (k := q) (w := (nI s2)) rfl rfl (rfl) (by omega) (by decide) ((hRK.2.2.2.2.1 q hq).trans e2) ?_
  refine am_g 2 (if (nI s2) = (-1) then 317 else 296) [some (.ref 47), some (.int (nI l)), some (.int (nI o)), some (.int (nI q)), some (.int (μ 30 z))] [] (hG σ sr ln Lc μ) rfl ?_
  rw [if_neg (show ¬ (nI s2) = (-1) from (nI_m1 (by omega)))]
  refine am_g 4 302 [some (.ref 47), some (.int (nI l)), some (.int (nI o)), some (.int (nI q)), some (.int (μ 30 z))] [.int (nI l), .ref 54, .ref 47] (hG σ sr ln Lc μ) rfl ?_
  refine am_ialdV (n := 40) (f := (μ 8)) (k := l) (w := (nI a)) rfl rfl (rfl) (by omega) (by decide) ((hRL.2.2.1 l hl).trans h0) ?_
  refine am_g 5 312 [some (.ref 47), some (.int (nI l)), some (.int (nI o)), some (.int (nI q)), some (.int (μ 30 z))] [.int (nI q), .ref 52, .ref 68, .int (nI a), .ref 47] (hG σ sr ln Lc μ) rfl ?_
  refine am_ialdV (n := 6) (f := (μ 6)) (k := q) (w := (nI s2)) rfl rfl (rfl) (by omega) (by decide) ((hRK.2.2.2.2.1 q hq).trans e2) ?_
  refine am_ialdR (n := 20) (f := (μ 30)) (k := s2) rfl rfl (rfl) (by omega) (by decide) ?_
  refine am_call (y := 196) (vs := [.ref 47, .int (nI a), .int (μ 30 s2)]) (rest := []) (v := none) (h1 := (hG σ sr ln Lc (am_up (am_up μ 30 (upd (μ 30) a (μ 30 s2))) 31 (upd (μ 31) a (((μ 31) a) ||| am_bitM (μ 30 s2)))))) rfl rfl rfl (sp_X12_gets (σ := σ) (μ := μ) d a (by omega) _) ?_
  refine am_g 1 318 [some (.ref 47), some (.int (nI l)), some (.int (nI o)), some (.int (nI q)), some (.int (μ 30 z))] [.int 1] (hG σ sr ln Lc (am_up (am_up μ 30 (upd (μ 30) a (μ 30 s2))) 31 (upd (μ 31) a (((μ 31) a) ||| am_bitM (μ 30 s2))))) rfl ?_
  exact am_ret2 rfl rfl rfl rfl rfl
theorem sp_X12_does_4y5 (d : Nat) (l : Nat) (hl : l < Lc) (hL40 : Lc ≤ 40) (hRL : am_RL sr ln Lc μ) (hs : sr l = 4) {a : Nat} (ha : a < 20) (h0 : ln l 0 = nI a) {b : Nat} (hb : b < 20) (h1 : ln l 1 = nI b) {n : Nat} (hn3 : n < 3) (hn : ln l 2 = nI n) {z : Nat} (hz : z < 20) (h7 : ln l 7 = nI z) {o : Nat} (ho : o < 16) (hv : μ 30 b = nI o) (hko : ∀ d, am_X xs LL (d + 1) 154 [.ref 47, .int (nI o)] (hG σ sr ln Lc μ) (some (.int (σ 4 o))) (hG σ sr ln Lc μ)) (hk4 : am_pl 8 (σ 4 o)) (hab : am_wab (σ 1)) (hRK : am_RK σ μ) {q : Nat} (hq : q < 6) (hg : (am_aimF (σ 1) (σ 2) n 9 (σ 4 o)) = nI q) {s0 : Nat} (hs0 : s0 < 20) (e0 : σ 3 (3 * q + 0) = nI s0) (e1 : σ 3 (3 * q + 1) = -1) {s2 : Nat} (hs2 : s2 < 20) (e2 : σ 3 (3 * q + 2) = nI s2) : am_X xs LL (d + 2) 197 [.ref 47, .int (nI l)] (hG σ sr ln Lc μ) (some (.int 1)) (hG σ sr ln Lc (am_up (am_up μ 30 (upd (upd (μ 30) s0 (nI o)) a ((upd (μ 30) s0 (nI o)) s2))) 31 (upd (upd (μ 31) s0 (((μ 31) s0) ||| am_bitM (nI o))) a (((upd (μ 31) s0 (((μ 31) s0) ||| am_bitM (nI o))) a) ||| am_bitM ((upd (μ 30) s0 (nI o)) s2))))) := by
  refine am_XR (d := d + 1) (C := cd_X12_does) (L := [some (.ref 47), some (.int (nI l)), none, none, none]) rfl rfl rfl rfl ?_
  refine am_g 3 5 [some (.ref 47), some (.int (nI l)), none, none, none] [.int (nI l), .ref 55] (hG σ sr ln Lc μ) rfl ?_
  refine am_ialdV (n := 40) (f := (μ 9)) (k := l) (w := (nI b)) rfl rfl (rfl) (by omega) (by decide) ((hRL.2.2.2.1 l hl).trans h1) ?_
  refine am_g 2 (if (nI b) = (-1) then 10 else 14) [some (.ref 47), some (.int (nI l)), none, none, none] [] (hG σ sr ln Lc μ) rfl ?_
  rw [if_neg (show ¬ (nI b) = (-1) from (nI_m1 (by omega)))]
  refine am_g 5 23 [some (.ref 47), some (.int (nI l)), none, none, none] [.int (nI l), .ref 55, .ref 68] (hG σ sr ln Lc μ) rfl ?_
  refine am_ialdV (n := 40) (f := (μ 9)) (k := l) (w := (nI b)) rfl rfl (rfl) (by omega) (by decide) ((hRL.2.2.2.1 l hl).trans h1) ?_
  refine am_ialdV (n := 20) (f := (μ 30)) (k := b) (w := (nI o)) rfl rfl (rfl) (by omega) (by decide) (hv) ?_
  refine am_g 4 31 [some (.ref 47), some (.int (nI l)), some (.int (nI o)), none, none] [.int (nI l), .ref 53] (hG σ sr ln Lc μ) rfl ?_
  refine am_ialdV (n := 40) (f := (μ 7)) (k := l) (w := 4) rfl rfl (rfl) (by omega) (by decide) ((hRL.2.1 l hl).trans (by rw [hs]; rfl)) ?_
  refine am_g 4 (if (nI o) = (-1) then 203 else 207) [some (.ref 47), some (.int (nI l)), some (.int (nI o)), none, none] [] (hG σ sr ln Lc μ) rfl ?_
  rw [if_neg (show ¬ (nI o) = (-1) from (nI_m1 (by omega)))]
  refine am_g 3 210 [some (.ref 47), some (.int (nI l)), some (.int (nI o)), none, none] [.int (nI o), .ref 47, .ref 47] (hG σ sr ln Lc μ) rfl ?_
  refine am_call (y := 154) (vs := [.ref 47, .int (nI o)]) (rest := [.ref 47]) (v := (some (.int (σ 4 o)))) (h1 := (hG σ sr ln Lc μ)) rfl rfl rfl (hko d) ?_
  refine am_g 3 218 [some (.ref 47), some (.int (nI l)), some (.int (nI o)), none, none] [.int (nI l), .ref 56, .int (σ 4 o), .ref 47] (hG σ sr ln Lc μ) rfl ?_
  refine am_ialdV (n := 40) (f := (μ 10)) (k := l) (w := (nI n)) rfl rfl (rfl) (by omega) (by decide) ((hRL.2.2.2.2.1 l hl).trans hn) ?_
  refine am_call (y := 147) (vs := [.ref 47, .int (σ 4 o), .int (nI n)]) (rest := []) (v := (some (.int (nI q)))) (h1 := (hG σ sr ln Lc μ)) rfl rfl rfl ((by have k := sp_X12_aimOf_s (σ := σ) (μ := μ) (xs := xs) (LL := LL) (sr := sr) (ln := ln) (Lc := Lc) d hRK.1 hRK.2.1 hab _ n hk4 hn3; rw [hg] at k; exact k)) ?_
  refine am_g 4 (if (nI q) = (-1) then 228 else 230) [some (.ref 47), some (.int (nI l)), some (.int (nI o)), some (.int (nI q)), none] [] (hG σ sr ln Lc μ) rfl ?_
  rw [if_neg (show ¬ (nI q) = (-1) from (nI_m1 (by omega)))]
  refine am_g 5 239 [some (.ref 47), some (.int (nI l)), some (.int (nI o)), some (.int (nI q)), none] [.int (nI l), .ref 57, .ref 68] (hG σ sr ln Lc μ) rfl ?_
  refine am_ialdV (n := 40) (f := (μ 11)) (k := l) (w := (nI z)) rfl rfl (rfl) (by omega) (by decide) (((hRL.2.2.2.2.2.1 l hl).trans (if_pos hs)).trans h7) ?_
  refine am_ialdR (n := 20) (f := (μ 30)) (k := z) rfl rfl (rfl) (by omega) (by decide) ?_
  refine am_g 4 248 [some (.ref 47), some (.int (nI l)), some (.int (nI o)), some (.int (nI q)), some (.int (μ 30 z))] [.int (nI q), .ref 50] (hG σ sr ln Lc μ) rfl ?_
  refine am_ialdV (n := 6) (f := (μ 4)) (k := q) (w := (nI s0)) rfl rfl (rfl) (by omega) (by decide) ((hRK.2.2.1 q hq).trans e0) ?_
  refine am_g 2 (if (nI s0) = (-1) then 264 else 253) [some (.ref 47), some (.int (nI l)), some (.int (nI o)), some (.int (nI q)), some (.int (μ 30 z))] [] (hG σ sr ln Lc μ) rfl ?_
  rw [if_neg (show ¬ (nI s0) = (-1) from (nI_m1 (by omega)))]
  refine am_g 4 259 [some (.ref 47), some (.int (nI l)), some (.int (nI o)), some (.int (nI q)), some (.int (μ 30 z))] [.int (nI q), .ref 50, .ref 47] (hG σ sr ln Lc μ) rfl ?_
  refine am_ialdV (n := 6) (f := (μ 4)) (k := q) (w := (nI s0)) rfl rfl (rfl) (by omega) (by decide) ((hRK.2.2.1 q hq).trans e0) ?_
  refine am_g 1 261 [some (.ref 47), some (.int (nI l)), some (.int (nI o)), some (.int (nI q)), some (.int (μ 30 z))] [.int (nI o), .int (nI s0), .ref 47] (hG σ sr ln Lc μ) rfl ?_
  refine am_call (y := 196) (vs := [.ref 47, .int (nI s0), .int (nI o)]) (rest := []) (v := none) (h1 := (hG σ sr ln Lc (am_up (am_up μ 30 (upd (μ 30) s0 (nI o))) 31 (upd (μ 31) s0 (((μ 31) s0) ||| am_bitM (nI o)))))) rfl rfl rfl (sp_X12_gets (σ := σ) (μ := μ) d s0 (by omega) _) ?_
  refine am_g 3 269 [some (.ref 47), some (.int (nI l)), some (.int (nI o)), some (.int (nI q)), some (.int (μ 30 z))] [.int (nI q), .ref 51] (hG σ sr ln Lc (am_up (am_up μ 30 (upd (μ 30) s0 (nI o))) 31 (upd (μ 31) s0 (((μ 31) s0) ||| am_bitM (nI o))))) rfl ?_
  refine am_ialdV (n := 6) (f := (μ 5)) (k := q) (w := (-1)) rfl rfl (rfl) (by omega) (by decide) ((hRK.2.2.2.1 q hq).trans e1) ?_
  refine am_g 5 291 [some (.ref 47), some (.int (nI l)), some (.int (nI o)), some (.int (nI q)), some (.int (μ 30 z))] [.int (nI q), .ref 52] (hG σ sr ln Lc (am_up (am_up μ 30 (upd (μ 30) s0 (nI o))) 31 (upd (μ 31) s0 (((μ 31) s0) ||| am_bitM (nI o))))) rfl ?_
  refine am_ialdV (n := 6) (f := (μ 6)) (k := q) (w := (nI s2)) rfl rfl (rfl) (by omega) (by decide) ((hRK.2.2.2.2.1 q hq).trans e2) ?_
  refine am_g 2 (if (nI s2) = (-1) then 317 else 296) [some (.ref 47), some (.int (nI l)), some (.int (nI o)), some (.int (nI q)), some (.int (μ 30 z))] [] (hG σ sr ln Lc (am_up (am_up μ 30 (upd (μ 30) s0 (nI o))) 31 (upd (μ 31) s0 (((μ 31) s0) ||| am_bitM (nI o))))) rfl ?_
  rw [if_neg (show ¬ (nI s2) = (-1) from (nI_m1 (by omega)))]
  refine am_g 4 302 [some (.ref 47), some (.int (nI l)), some (.int (nI o)), some (.int (nI q)), some (.int (μ 30 z))] [.int (nI l), .ref 54, .ref 47] (hG σ sr ln Lc (am_up (am_up μ 30 (upd (μ 30) s0 (nI o))) 31 (upd (μ 31) s0 (((μ 31) s0) ||| am_bitM (nI o))))) rfl ?_
  refine am_ialdV (n := 40) (f := (μ 8)) (k := l) (w := (nI a)) rfl rfl (rfl) (by omega) (by decide) ((hRL.2.2.1 l hl).trans h0) ?_
  refine am_g 5 312 [some (.ref 47), some (.int (nI l)), some (.int (nI o)), some (.int (nI q)), some (.int (μ 30 z))] [.int (nI q), .ref 52, .ref 68, .int (nI a), .ref 47] (hG σ sr ln Lc (am_up (am_up μ 30 (upd (μ 30) s0 (nI o))) 31 (upd (μ 31) s0 (((μ 31) s0) ||| am_bitM (nI o))))) rfl ?_
  refine am_ialdV (n := 6) (f := (μ 6)) (k := q) (w := (nI s2)) rfl rfl (rfl) (by omega) (by decide) ((hRK.2.2.2.2.1 q hq).trans e2) ?_
  refine am_ialdR (n := 20) (f := (upd (μ 30) s0 (nI o))) (k := s2) rfl rfl (rfl) (by omega) (by decide) ?_
  refine am_call (y := 196) (vs := [.ref 47, .int (nI a), .int ((upd (μ 30) s0 (nI o)) s2)]) (rest := []) (v := none) (h1 := (hG σ sr ln Lc (am_up (am_up μ 30 (upd (upd (μ 30) s0 (nI o)) a ((upd (μ 30) s0 (nI o)) s2))) 31 (upd (upd (μ 31) s0 (((μ 31) s0) ||| am_bitM (nI o))) a (((upd (μ 31) s0 (((μ 31) s0) ||| am_bitM (nI o))) a) ||| am_bitM ((upd (μ 30) s0 (nI o)) s2)))))) rfl rfl rfl (sp_X12_gets (σ := σ) (μ := (am_up (am_up μ 30 (upd (μ 30) s0 (nI o))) 31 (upd (μ 31) s0 (((μ 31) s0) ||| am_bitM (nI o))))) d a (by omega) _) ?_
  refine am_g 1 318 [some (.ref 47), some (.int (nI l)), some (.int (nI o)), some (.int (nI q)), some (.int (μ 30 z))] [.int 1] (hG σ sr ln Lc (am_up (am_up μ 30 (upd (upd (μ 30) s0 (nI o)) a ((upd (μ 30) s0 (nI o)) s2))) 31 (upd (upd (μ 31) s0 (((μ 31) s0) ||| am_bitM (nI o))) a (((upd (μ 31) s0 (((μ 31) s0) ||| am_bitM (nI o))) a) ||| am_bitM ((upd (μ 30) s0 (nI o)) s2))))) rfl ?_
  exact am_ret2 rfl rfl rfl rfl rfl
theorem sp_X12_does_4y6 (d : Nat) (l : Nat) (hl : l < Lc) (hL40 : Lc ≤ 40) (hRL : am_RL sr ln Lc μ) (hs : sr l = 4) {a : Nat} (ha : a < 20) (h0 : ln l 0 = nI a) {b : Nat} (hb : b < 20) (h1 : ln l 1 = nI b) {n : Nat} (hn3 : n < 3) (hn : ln l 2 = nI n) {z : Nat} (hz : z < 20) (h7 : ln l 7 = nI z) {o : Nat} (ho : o < 16) (hv : μ 30 b = nI o) (hko : ∀ d, am_X xs LL (d + 1) 154 [.ref 47, .int (nI o)] (hG σ sr ln Lc μ) (some (.int (σ 4 o))) (hG σ sr ln Lc μ)) (hk4 : am_pl 8 (σ 4 o)) (hab : am_wab (σ 1)) (hRK : am_RK σ μ) {q : Nat} (hq : q < 6) (hg : (am_aimF (σ 1) (σ 2) n 9 (σ 4 o)) = nI q) (e0 : σ 3 (3 * q + 0) = -1) {s1 : Nat} (hs1 : s1 < 20) (e1 : σ 3 (3 * q + 1) = nI s1) {s2 : Nat} (hs2 : s2 < 20) (e2 : σ 3 (3 * q + 2) = nI s2) : am_X xs LL (d + 2) 197 [.ref 47, .int (nI l)] (hG σ sr ln Lc μ) (some (.int 1)) (hG σ sr ln Lc (am_up (am_up μ 30 (upd (upd (μ 30) s1 (μ 30 z)) a ((upd (μ 30) s1 (μ 30 z)) s2))) 31 (upd (upd (μ 31) s1 (((μ 31) s1) ||| am_bitM (μ 30 z))) a (((upd (μ 31) s1 (((μ 31) s1) ||| am_bitM (μ 30 z))) a) ||| am_bitM ((upd (μ 30) s1 (μ 30 z)) s2))))) := by
  refine am_XR (d := d + 1) (C := cd_X12_does) (L := [some (.ref 47), some (.int (nI l)), none, none, none]) rfl rfl rfl rfl ?_
  refine am_g 3 5 [some (.ref 47), some (.int (nI l)), none, none, none] [.int (nI l), .ref 55] (hG σ sr ln Lc μ) rfl ?_
  refine am_ialdV (n := 40) (f := (μ 9)) (k := l) (w := (nI b)) rfl rfl (rfl) (by omega) (by decide) ((hRL.2.2.2.1 l hl).trans h1) ?_
  refine am_g 2 (if (nI b) = (-1) then 10 else 14) [some (.ref 47), some (.int (nI l)), none, none, none] [] (hG σ sr ln Lc μ) rfl ?_
  rw [if_neg (show ¬ (nI b) = (-1) from (nI_m1 (by omega)))]
  refine am_g 5 23 [some (.ref 47), some (.int (nI l)), none, none, none] [.int (nI l), .ref 55, .ref 68] (hG σ sr ln Lc μ) rfl ?_
  refine am_ialdV (n := 40) (f := (μ 9)) (k := l) (w := (nI b)) rfl rfl (rfl) (by omega) (by decide) ((hRL.2.2.2.1 l hl).trans h1) ?_
  refine am_ialdV (n := 20) (f := (μ 30)) (k := b) (w := (nI o)) rfl rfl (rfl) (by omega) (by decide) (hv) ?_
  refine am_g 4 31 [some (.ref 47), some (.int (nI l)), some (.int (nI o)), none, none] [.int (nI l), .ref 53] (hG σ sr ln Lc μ) rfl ?_
  refine am_ialdV (n := 40) (f := (μ 7)) (k := l) (w := 4) rfl rfl (rfl) (by omega) (by decide) ((hRL.2.1 l hl).trans (by rw [hs]; rfl)) ?_
  refine am_g 4 (if (nI o) = (-1) then 203 else 207) [some (.ref 47), some (.int (nI l)), some (.int (nI o)), none, none] [] (hG σ sr ln Lc μ) rfl ?_
  rw [if_neg (show ¬ (nI o) = (-1) from (nI_m1 (by omega)))]
  refine am_g 3 210 [some (.ref 47), some (.int (nI l)), some (.int (nI o)), none, none] [.int (nI o), .ref 47, .ref 47] (hG σ sr ln Lc μ) rfl ?_
  refine am_call (y := 154) (vs := [.ref 47, .int (nI o)]) (rest := [.ref 47]) (v := (some (.int (σ 4 o)))) (h1 := (hG σ sr ln Lc μ)) rfl rfl rfl (hko d) ?_
  refine am_g 3 218 [some (.ref 47), some (.int (nI l)), some (.int (nI o)), none, none] [.int (nI l), .ref 56, .int (σ 4 o), .ref 47] (hG σ sr ln Lc μ) rfl ?_
  refine am_ialdV (n := 40) (f := (μ 10)) (k := l) (w := (nI n)) rfl rfl (rfl) (by omega) (by decide) ((hRL.2.2.2.2.1 l hl).trans hn) ?_
  refine am_call (y := 147) (vs := [.ref 47, .int (σ 4 o), .int (nI n)]) (rest := []) (v := (some (.int (nI q)))) (h1 := (hG σ sr ln Lc μ)) rfl rfl rfl ((by have k := sp_X12_aimOf_s (σ := σ) (μ := μ) (xs := xs) (LL := LL) (sr := sr) (ln := ln) (Lc := Lc) d hRK.1 hRK.2.1 hab _ n hk4 hn3; rw [hg] at k; exact k)) ?_
  refine am_g 4 (if (nI q) = (-1) then 228 else 230) [some (.ref 47), some (.int (nI l)), some (.int (nI o)), some (.int (nI q)), none] [] (hG σ sr ln Lc μ) rfl ?_
  rw [if_neg (show ¬ (nI q) = (-1) from (nI_m1 (by omega)))]
  refine am_g 5 239 [some (.ref 47), some (.int (nI l)), some (.int (nI o)), some (.int (nI q)), none] [.int (nI l), .ref 57, .ref 68] (hG σ sr ln Lc μ) rfl ?_
  refine am_ialdV (n := 40) (f := (μ 11)) (k := l) (w := (nI z)) rfl rfl (rfl) (by omega) (by decide) (((hRL.2.2.2.2.2.1 l hl).trans (if_pos hs)).trans h7) ?_
  refine am_ialdR (n := 20) (f := (μ 30)) (k := z) rfl rfl (rfl) (by omega) (by decide) ?_
  refine am_g 4 248 [some (.ref 47), some (.int (nI l)), some (.int (nI o)), some (.int (nI q)), some (.int (μ 30 z))] [.int (nI q), .ref 50] (hG σ sr ln Lc μ) rfl ?_
  refine am_ialdV (n := 6) (f := (μ 4)) (k := q) (w := (-1)) rfl rfl (rfl) (by omega) (by decide) ((hRK.2.2.1 q hq).trans e0) ?_
  refine am_g 5 269 [some (.ref 47), some (.int (nI l)), some (.int (nI o)), some (.int (nI q)), some (.int (μ 30 z))] [.int (nI q), .ref 51] (hG σ sr ln Lc μ) rfl ?_
  refine am_ialdV (n := 6) (f := (μ 5)) (k := q) (w := (nI s1)) rfl rfl (rfl) (by omega) (by decide) ((hRK.2.2.2.1 q hq).trans e1) ?_
  refine am_g 2 (if (nI s1) = (-1) then 286 else 274) [some (.ref 47), some (.int (nI l)), some (.int (nI o)), some (.int (nI q)), some (.int (μ 30 z))] [] (hG σ sr ln Lc μ) rfl ?_
  rw [if_neg (show ¬ (nI s1) = (-1) from (nI_m1 (by omega)))]
  refine am_g 4 280 [some (.ref 47), some (.int (nI l)), some (.int (nI o)), some (.int (nI q)), some (.int (μ 30 z))] [.int (nI q), .ref 51, .ref 47] (hG σ sr ln Lc μ) rfl ?_
  refine am_ialdV (n := 6) (f := (μ 5)) (k := q) (w := (nI s1)) rfl rfl (rfl) (by omega) (by decide) ((hRK.2.2.2.1 q hq).trans e1) ?_
  refine am_g 1 283 [some (.ref 47), some (.int (nI l)), some (.int (nI o)), some (.int (nI q)), some (.int (μ 30 z))] [.int (μ 30 z), .int (nI s1), .ref 47] (hG σ sr ln Lc μ) rfl ?_
  refine am_call (y := 196) (vs := [.ref 47, .int (nI s1), .int (μ 30 z)]) (rest := []) (v := none) (h1 := (hG σ sr ln Lc (am_up (am_up μ 30 (upd (μ 30) s1 (μ 30 z))) 31 (upd (μ 31) s1 (((μ 31) s1) ||| am_bitM (μ 30 z)))))) rfl rfl rfl (sp_X12_gets (σ := σ) (μ := μ) d s1 (by omega) _) ?_
  refine am_g 3 291 [some (.ref 47), some (.int (nI l)), some (.int (nI o)), some (.int (nI q)), some (.int (μ 30 z))] [.int (nI q), .ref 52] (hG σ sr ln Lc (am_up (am_up μ 30 (upd (μ 30) s1 (μ 30 z))) 31 (upd (μ 31) s1 (((μ 31) s1) ||| am_bitM (μ 30 z))))) rfl ?_
  refine am_ialdV (n := 6) (f := (μ 6)) (k := q) (w := (nI s2)) rfl rfl (rfl) (by omega) (by decide) ((hRK.2.2.2.2.1 q hq).trans e2) ?_
  refine am_g 2 (if (nI s2) = (-1) then 317 else 296) [some (.ref 47), some (.int (nI l)), some (.int (nI o)), some (.int (nI q)), some (.int (μ 30 z))] [] (hG σ sr ln Lc (am_up (am_up μ 30 (upd (μ 30) s1 (μ 30 z))) 31 (upd (μ 31) s1 (((μ 31) s1) ||| am_bitM (μ 30 z))))) rfl ?_
  rw [if_neg (show ¬ (nI s2) = (-1) from (nI_m1 (by omega)))]
  refine am_g 4 302 [some (.ref 47), some (.int (nI l)), some (.int (nI o)), some (.int (nI q)), some (.int (μ 30 z))] [.int (nI l), .ref 54, .ref 47] (hG σ sr ln Lc (am_up (am_up μ 30 (upd (μ 30) s1 (μ 30 z))) 31 (upd (μ 31) s1 (((μ 31) s1) ||| am_bitM (μ 30 z))))) rfl ?_
  refine am_ialdV (n := 40) (f := (μ 8)) (k := l) (w := (nI a)) rfl rfl (rfl) (by omega) (by decide) ((hRL.2.2.1 l hl).trans h0) ?_
  refine am_g 5 312 [some (.ref 47), some (.int (nI l)), some (.int (nI o)), some (.int (nI q)), some (.int (μ 30 z))] [.int (nI q), .ref 52, .ref 68, .int (nI a), .ref 47] (hG σ sr ln Lc (am_up (am_up μ 30 (upd (μ 30) s1 (μ 30 z))) 31 (upd (μ 31) s1 (((μ 31) s1) ||| am_bitM (μ 30 z))))) rfl ?_
  refine am_ialdV (n := 6) (f := (μ 6)) (k := q) (w := (nI s2)) rfl rfl (rfl) (by omega) (by decide) ((hRK.2.2.2.2.1 q hq).trans e2) ?_
  refine am_ialdR (n := 20) (f := (upd (μ 30) s1 (μ 30 z))) (k := s2) rfl rfl (rfl) (by omega) (by decide) ?_
  refine am_call (y := 196) (vs := [.ref 47, .int (nI a), .int ((upd (μ 30) s1 (μ 30 z)) s2)]) (rest := []) (v := none) (h1 := (hG σ sr ln Lc (am_up (am_up μ 30 (upd (upd (μ 30) s1 (μ 30 z)) a ((upd (μ 30) s1 (μ 30 z)) s2))) 31 (upd (upd (μ 31) s1 (((μ 31) s1) ||| am_bitM (μ 30 z))) a (((upd (μ 31) s1 (((μ 31) s1) ||| am_bitM (μ 30 z))) a) ||| am_bitM ((upd (μ 30) s1 (μ 30 z)) s2)))))) rfl rfl rfl (sp_X12_gets (σ := σ) (μ := (am_up (am_up μ 30 (upd (μ 30) s1 (μ 30 z))) 31 (upd (μ 31) s1 (((μ 31) s1) ||| am_bitM (μ 30 z))))) d a (by omega) _) ?_
  refine am_g 1 318 [some (.ref 47), some (.int (nI l)), some (.int (nI o)), some (.int (nI q)), some (.int (μ 30 z))] [.int 1] (hG σ sr ln Lc (am_up (am_up μ 30 (upd (upd (μ 30) s1 (μ 30 z)) a ((upd (μ 30) s1 (μ 30 z)) s2))) 31 (upd (upd (μ 31) s1 (((μ 31) s1) ||| am_bitM (μ 30 z))) a (((upd (μ 31) s1 (((μ 31) s1) ||| am_bitM (μ 30 z))) a) ||| am_bitM ((upd (μ 30) s1 (μ 30 z)) s2))))) rfl ?_
  exact am_ret2 rfl rfl rfl rfl rfl
theorem sp_X12_does_4y7 (d : Nat) (l : Nat) (hl : l < Lc) (hL40 : Lc ≤ 40) (hRL : am_RL sr ln Lc μ) (hs : sr l = 4) {a : Nat} (ha : a < 20) (h0 : ln l 0 = nI a) {b : Nat} (hb : b < 20) (h1 : ln l 1 = nI b) {n : Nat} (hn3 : n < 3) (hn : ln l 2 = nI n) {z : Nat} (hz : z < 20) (h7 : ln l 7 = nI z) {o : Nat} (ho : o < 16) (hv : μ 30 b = nI o) (hko : ∀ d, am_X xs LL (d + 1) 154 [.ref 47, .int (nI o)] (hG σ sr ln Lc μ) (some (.int (σ 4 o))) (hG σ sr ln Lc μ)) (hk4 : am_pl 8 (σ 4 o)) (hab : am_wab (σ 1)) (hRK : am_RK σ μ) {q : Nat} (hq : q < 6) (hg : (am_aimF (σ 1) (σ 2) n 9 (σ 4 o)) = nI q) {s0 : Nat} (hs0 : s0 < 20) (e0 : σ 3 (3 * q + 0) = nI s0) {s1 : Nat} (hs1 : s1 < 20) (e1 : σ 3 (3 * q + 1) = nI s1) {s2 : Nat} (hs2 : s2 < 20) (e2 : σ 3 (3 * q + 2) = nI s2) : am_X xs LL (d + 2) 197 [.ref 47, .int (nI l)] (hG σ sr ln Lc μ) (some (.int 1)) (hG σ sr ln Lc (am_up (am_up μ 30 (upd (upd (upd (μ 30) s0 (nI o)) s1 (μ 30 z)) a ((upd (upd (μ 30) s0 (nI o)) s1 (μ 30 z)) s2))) 31 (upd (upd (upd (μ 31) s0 (((μ 31) s0) ||| am_bitM (nI o))) s1 (((upd (μ 31) s0 (((μ 31) s0) ||| am_bitM (nI o))) s1) ||| am_bitM (μ 30 z))) a (((upd (upd (μ 31) s0 (((μ 31) s0) ||| am_bitM (nI o))) s1 (((upd (μ 31) s0 (((μ 31) s0) ||| am_bitM (nI o))) s1) ||| am_bitM (μ 30 z))) a) ||| am_bitM ((upd (upd (μ 30) s0 (nI o)) s1 (μ 30 z)) s2))))) := by
  refine am_XR (d := d + 1) (C := cd_X12_does) (L := [some (.ref 47), some (.int (nI l)), none, none, none]) rfl rfl rfl rfl ?_
  refine am_g 3 5 [some (.ref 47), some (.int (nI l)), none, none, none] [.int (nI l), .ref 55] (hG σ sr ln Lc μ) rfl ?_
  refine am_ialdV (n := 40) (f := (μ 9)) (k := l) (w := (nI b)) rfl rfl (rfl) (by omega) (by decide) ((hRL.2.2.2.1 l hl).trans h1) ?_
  refine am_g 2 (if (nI b) = (-1) then 10 else 14) [some (.ref 47), some (.int (nI l)), none, none, none] [] (hG σ sr ln Lc μ) rfl ?_
  rw [if_neg (show ¬ (nI b) = (-1) from (nI_m1 (by omega)))]
  refine am_g 5 23 [some (.ref 47), some (.int (nI l)), none, none, none] [.int (nI l), .ref 55, .ref 68] (hG σ sr ln Lc μ) rfl ?_
  refine am_ialdV (n := 40) (f := (μ 9)) (k := l) (w := (nI b)) rfl rfl (rfl) (by omega) (by decide) ((hRL.2.2.2.1 l hl).trans h1) ?_
  refine am_ialdV (n := 20) (f := (μ 30)) (k := b) (w := (nI o)) rfl rfl (rfl) (by omega) (by decide) (hv) ?_
  refine am_g 4 31 [some (.ref 47), some (.int (nI l)), some (.int (nI o)), none, none] [.int (nI l), .ref 53] (hG σ sr ln Lc μ) rfl ?_
  refine am_ialdV (n := 40) (f := (μ 7)) (k := l) (w := 4) rfl rfl (rfl) (by omega) (by decide) ((hRL.2.1 l hl).trans (by rw [hs]; rfl)) ?_
  refine am_g 4 (if (nI o) = (-1) then 203 else 207) [some (.ref 47), some (.int (nI l)), some (.int (nI o)), none, none] [] (hG σ sr ln Lc μ) rfl ?_
  rw [if_neg (show ¬ (nI o) = (-1) from (nI_m1 (by omega)))]
  refine am_g 3 210 [some (.ref 47), some (.int (nI l)), some (.int (nI o)), none, none] [.int (nI o), .ref 47, .ref 47] (hG σ sr ln Lc μ) rfl ?_
  refine am_call (y := 154) (vs := [.ref 47, .int (nI o)]) (rest := [.ref 47]) (v := (some (.int (σ 4 o)))) (h1 := (hG σ sr ln Lc μ)) rfl rfl rfl (hko d) ?_
  refine am_g 3 218 [some (.ref 47), some (.int (nI l)), some (.int (nI o)), none, none] [.int (nI l), .ref 56, .int (σ 4 o), .ref 47] (hG σ sr ln Lc μ) rfl ?_
  refine am_ialdV (n := 40) (f := (μ 10)) (k := l) (w := (nI n)) rfl rfl (rfl) (by omega) (by decide) ((hRL.2.2.2.2.1 l hl).trans hn) ?_
  refine am_call (y := 147) (vs := [.ref 47, .int (σ 4 o), .int (nI n)]) (rest := []) (v := (some (.int (nI q)))) (h1 := (hG σ sr ln Lc μ)) rfl rfl rfl ((by have k := sp_X12_aimOf_s (σ := σ) (μ := μ) (xs := xs) (LL := LL) (sr := sr) (ln := ln) (Lc := Lc) d hRK.1 hRK.2.1 hab _ n hk4 hn3; rw [hg] at k; exact k)) ?_
  refine am_g 4 (if (nI q) = (-1) then 228 else 230) [some (.ref 47), some (.int (nI l)), some (.int (nI o)), some (.int (nI q)), none] [] (hG σ sr ln Lc μ) rfl ?_
  rw [if_neg (show ¬ (nI q) = (-1) from (nI_m1 (by omega)))]
  refine am_g 5 239 [some (.ref 47), some (.int (nI l)), some (.int (nI o)), some (.int (nI q)), none] [.int (nI l), .ref 57, .ref 68] (hG σ sr ln Lc μ) rfl ?_
  refine am_ialdV (n := 40) (f := (μ 11)) (k := l) (w := (nI z)) rfl rfl (rfl) (by omega) (by decide) (((hRL.2.2.2.2.2.1 l hl).trans (if_pos hs)).trans h7) ?_
  refine am_ialdR (n := 20) (f := (μ 30)) (k := z) rfl rfl (rfl) (by omega) (by decide) ?_
  refine am_g 4 248 [some (.ref 47), some (.int (nI l)), some (.int (nI o)), some (.int (nI q)), some (.int (μ 30 z))] [.int (nI q), .ref 50] (hG σ sr ln Lc μ) rfl ?_
  refine am_ialdV (n := 6) (f := (μ 4)) (k := q) (w := (nI s0)) rfl rfl (rfl) (by omega) (by decide) ((hRK.2.2.1 q hq).trans e0) ?_
  refine am_g 2 (if (nI s0) = (-1) then 264 else 253) [some (.ref 47), some (.int (nI l)), some (.int (nI o)), some (.int (nI q)), some (.int (μ 30 z))] [] (hG σ sr ln Lc μ) rfl ?_
  rw [if_neg (show ¬ (nI s0) = (-1) from (nI_m1 (by omega)))]
  refine am_g 4 259 [some (.ref 47), some (.int (nI l)), some (.int (nI o)), some (.int (nI q)), some (.int (μ 30 z))] [.int (nI q), .ref 50, .ref 47] (hG σ sr ln Lc μ) rfl ?_
  refine am_ialdV (n := 6) (f := (μ 4)) (k := q) (w := (nI s0)) rfl rfl (rfl) (by omega) (by decide) ((hRK.2.2.1 q hq).trans e0) ?_
  refine am_g 1 261 [some (.ref 47), some (.int (nI l)), some (.int (nI o)), some (.int (nI q)), some (.int (μ 30 z))] [.int (nI o), .int (nI s0), .ref 47] (hG σ sr ln Lc μ) rfl ?_
  refine am_call (y := 196) (vs := [.ref 47, .int (nI s0), .int (nI o)]) (rest := []) (v := none) (h1 := (hG σ sr ln Lc (am_up (am_up μ 30 (upd (μ 30) s0 (nI o))) 31 (upd (μ 31) s0 (((μ 31) s0) ||| am_bitM (nI o)))))) rfl rfl rfl (sp_X12_gets (σ := σ) (μ := μ) d s0 (by omega) _) ?_
  refine am_g 3 269 [some (.ref 47), some (.int (nI l)), some (.int (nI o)), some (.int (nI q)), some (.int (μ 30 z))] [.int (nI q), .ref 51] (hG σ sr ln Lc (am_up (am_up μ 30 (upd (μ 30) s0 (nI o))) 31 (upd (μ 31) s0 (((μ 31) s0) ||| am_bitM (nI o))))) rfl ?_
  refine am_ialdV (n := 6) (f := (μ 5)) (k := q) (w := (nI s1)) rfl rfl (rfl) (by omega) (by decide) ((hRK.2.2.2.1 q hq).trans e1) ?_
  refine am_g 2 (if (nI s1) = (-1) then 286 else 274) [some (.ref 47), some (.int (nI l)), some (.int (nI o)), some (.int (nI q)), some (.int (μ 30 z))] [] (hG σ sr ln Lc (am_up (am_up μ 30 (upd (μ 30) s0 (nI o))) 31 (upd (μ 31) s0 (((μ 31) s0) ||| am_bitM (nI o))))) rfl ?_
  rw [if_neg (show ¬ (nI s1) = (-1) from (nI_m1 (by omega)))]
  refine am_g 4 280 [some (.ref 47), some (.int (nI l)), some (.int (nI o)), some (.int (nI q)), some (.int (μ 30 z))] [.int (nI q), .ref 51, .ref 47] (hG σ sr ln Lc (am_up (am_up μ 30 (upd (μ 30) s0 (nI o))) 31 (upd (μ 31) s0 (((μ 31) s0) ||| am_bitM (nI o))))) rfl ?_
  refine am_ialdV (n := 6) (f := (μ 5)) (k := q) (w := (nI s1)) rfl rfl (rfl) (by omega) (by decide) ((hRK.2.2.2.1 q hq).trans e1) ?_
  refine am_g 1 283 [some (.ref 47), some (.int (nI l)), some (.int (nI o)), some (.int (nI q)), some (.int (μ 30 z))] [.int (μ 30 z), .int (nI s1), .ref 47] (hG σ sr ln Lc (am_up (am_up μ 30 (upd (μ 30) s0 (nI o))) 31 (upd (μ 31) s0 (((μ 31) s0) ||| am_bitM (nI o))))) rfl ?_
  refine am_call (y := 196) (vs := [.ref 47, .int (nI s1), .int (μ 30 z)]) (rest := []) (v := none) (h1 := (hG σ sr ln Lc (am_up (am_up μ 30 (upd (upd (μ 30) s0 (nI o)) s1 (μ 30 z))) 31 (upd (upd (μ 31) s0 (((μ 31) s0) ||| am_bitM (nI o))) s1 (((upd (μ 31) s0 (((μ 31) s0) ||| am_bitM (nI o))) s1) ||| am_bitM (μ 30 z)))))) rfl rfl rfl (sp_X12_gets (σ := σ) (μ := (am_up (am_up μ 30 (upd (μ 30) s0 (nI o))) 31 (upd (μ 31) s0 (((μ 31) s0) ||| am_bitM (nI o))))) d s1 (by omega) _) ?_
  refine am_g 3 291 [some (.ref 47), some (.int (nI l)), some (.int (nI o)), some (.int (nI q)), some (.int (μ 30 z))] [.int (nI q), .ref 52] (hG σ sr ln Lc (am_up (am_up μ 30 (upd (upd (μ 30) s0 (nI o)) s1 (μ 30 z))) 31 (upd (upd (μ 31) s0 (((μ 31) s0) ||| am_bitM (nI o))) s1 (((upd (μ 31) s0 (((μ 31) s0) ||| am_bitM (nI o))) s1) ||| am_bitM (μ 30 z))))) rfl ?_
  refine am_ialdV (n := 6) (f := (μ 6)) (k := q) (w := (nI s2)) rfl rfl (rfl) (by omega) (by decide) ((hRK.2.2.2.2.1 q hq).trans e2) ?_
  refine am_g 2 (if (nI s2) = (-1) then 317 else 296) [some (.ref 47), some (.int (nI l)), some (.int (nI o)), some (.int (nI q)), some (.int (μ 30 z))] [] (hG σ sr ln Lc (am_up (am_up μ 30 (upd (upd (μ 30) s0 (nI o)) s1 (μ 30 z))) 31 (upd (upd (μ 31) s0 (((μ 31) s0) ||| am_bitM (nI o))) s1 (((upd (μ 31) s0 (((μ 31) s0) ||| am_bitM (nI o))) s1) ||| am_bitM (μ 30 z))))) rfl ?_
  rw [if_neg (show ¬ (nI s2) = (-1) from (nI_m1 (by omega)))]
  refine am_g 4 302 [some (.ref 47), some (.int (nI l)), some (.int (nI o)), some (.int (nI q)), some (.int (μ 30 z))] [.int (nI l), .ref 54, .ref 47] (hG σ sr ln Lc (am_up (am_up μ 30 (upd (upd (μ 30) s0 (nI o)) s1 (μ 30 z))) 31 (upd (upd (μ 31) s0 (((μ 31) s0) ||| am_bitM (nI o))) s1 (((upd (μ 31) s0 (((μ 31) s0) ||| am_bitM (nI o))) s1) ||| am_bitM (μ 30 z))))) rfl ?_
  refine am_ialdV (n := 40) (f := (μ 8)) (k := l) (w := (nI a)) rfl rfl (rfl) (by omega) (by decide) ((hRL.2.2.1 l hl).trans h0) ?_
  refine am_g 5 312 [some (.ref 47), some (.int (nI l)), some (.int (nI o)), some (.int (nI q)), some (.int (μ 30 z))] [.int (nI q), .ref 52, .ref 68, .int (nI a), .ref 47] (hG σ sr ln Lc (am_up (am_up μ 30 (upd (upd (μ 30) s0 (nI o)) s1 (μ 30 z))) 31 (upd (upd (μ 31) s0 (((μ 31) s0) ||| am_bitM (nI o))) s1 (((upd (μ 31) s0 (((μ 31) s0) ||| am_bitM (nI o))) s1) ||| am_bitM (μ 30 z))))) rfl ?_
  refine am_ialdV (n := 6) (f := (μ 6)) (k := q) (w := (nI s2)) rfl rfl (rfl) (by omega) (by decide) ((hRK.2.2.2.2.1 q hq).trans e2) ?_
  refine am_ialdR (n := 20) (f := (upd (upd (μ 30) s0 (nI o)) s1 (μ 30 z))) (k := s2) rfl rfl (rfl) (by omega) (by decide) ?_
  refine am_call (y := 196) (vs := [.ref 47, .int (nI a), .int ((upd (upd (μ 30) s0 (nI o)) s1 (μ 30 z)) s2)]) (rest := []) (v := none) (h1 := (hG σ sr ln Lc (am_up (am_up μ 30 (upd (upd (upd (μ 30) s0 (nI o)) s1 (μ 30 z)) a ((upd (upd (μ 30) s0 (nI o)) s1 (μ 30 z)) s2))) 31 (upd (upd (upd (μ 31) s0 (((μ 31) s0) ||| am_bitM (nI o))) s1 (((upd (μ 31) s0 (((μ 31) s0) ||| am_bitM (nI o))) s1) ||| am_bitM (μ 30 z))) a (((upd (upd (μ 31) s0 (((μ 31) s0) ||| am_bitM (nI o))) s1 (((upd (μ 31) s0 (((μ 31) s0) ||| am_bitM (nI o))) s1) ||| am_bitM (μ 30 z))) a) ||| am_bitM ((upd (upd (μ 30) s0 (nI o)) s1 (μ 30 z)) s2)))))) rfl rfl rfl (sp_X12_gets (σ := σ) (μ := (am_up (am_up μ 30 (upd (upd (μ 30) s0 (nI o)) s1 (μ 30 z))) 31 (upd (upd (μ 31) s0 (((μ 31) s0) ||| am_bitM (nI o))) s1 (((upd (μ 31) s0 (((μ 31) s0) ||| am_bitM (nI o))) s1) ||| am_bitM (μ 30 z))))) d a (by omega) _) ?_
  refine am_g 1 318 [some (.ref 47), some (.int (nI l)), some (.int (nI o)), some (.int (nI q)), some (.int (μ 30 z))] [.int 1] (hG σ sr ln Lc (am_up (am_up μ 30 (upd (upd (upd (μ 30) s0 (nI o)) s1 (μ 30 z)) a ((upd (upd (μ 30) s0 (nI o)) s1 (μ 30 z)) s2))) 31 (upd (upd (upd (μ 31) s0 (((μ 31) s0) ||| am_bitM (nI o))) s1 (((upd (μ 31) s0 (((μ 31) s0) ||| am_bitM (nI o))) s1) ||| am_bitM (μ 30 z))) a (((upd (upd (μ 31) s0 (((μ 31) s0) ||| am_bitM (nI o))) s1 (((upd (μ 31) s0 (((μ 31) s0) ||| am_bitM (nI o))) s1) ||| am_bitM (μ 30 z))) a) ||| am_bitM ((upd (upd (μ 30) s0 (nI o)) s1 (μ 30 z)) s2))))) rfl ?_
  exact am_ret2 rfl rfl rfl rfl rfl
theorem pu_am_oa {H D : Nat → Int32} (h : pu_RM H D μ) {b : Nat} (hb : b < 20) : am_oaF H (nI b) = μ 30 b := by
  rw [am_oaF_nI (by omega), h.1 b hb]
theorem am_bfr3 {k : Nat} {f g : Nat → Int32} {j : Nat} (hj : j < 30 ∨ 32 < j) : am_up (am_up μ 30 f) 31 g j = μ j := by
  rw [am_up_ne (by omega), am_up_ne (by omega)]
theorem sp_X12_does (xs : Nat → Int32) (LL : Nat) (l : Nat) (hl : l < Lc) (hwf : am_WF σ sr ln Lc) (hRK : am_RK σ μ) (hRL : am_RL sr ln Lc μ) (hRO : am_RO σ sr ln Lc O μ) {H D : Nat → Int32} (hRM : pu_RM H D μ) (hH : ∀ q, q < 68 → am_pl O (H q)) : ∃ ν : Nat → Nat → Int32, pu_RM (pu_actF (σ 4) (σ 1) (σ 2) (σ 3) (sr l) (ln l) (H, D)).2.1 (pu_actF (σ 4) (σ 1) (σ 2) (σ 3) (sr l) (ln l) (H, D)).2.2 ν ∧ (∀ j, j < 30 ∨ 32 < j → ν j = μ j) ∧ ∀ d, am_X xs LL (d + 2) 197 [.ref 47, .int (nI l)] (hG σ sr ln Lc μ) (some (.int (am_b2 (pu_actF (σ 4) (σ 1) (σ 2) (σ 3) (sr l) (ln l) (H, D)).1))) (hG σ sr ln Lc ν) := by
  have hL40 : Lc ≤ 40 := hwf.2.2.2.2.2.2
  have hw := hwf.2.2.2.2.2.1 l hl
  have hs := hwf.2.2.2.2.1 l hl
  have hO16 : O ≤ 16 := hRO.1
  obtain ⟨⟨a, ha, h0⟩, hpl1, h1, h15, hn3, -, -, h7, -, -⟩ := hw
  have hko : ∀ o, o < O → ∀ d, am_X xs LL (d + 1) 154 [.ref 47, .int (nI o)] (hG σ sr ln Lc μ) (some (.int (σ 4 o))) (hG σ sr ln Lc μ) := by
    intro o ho d
    obtain ⟨m, g1, g2, -, -, g5⟩ := hRO.2.2.2.1 o ho
    rw [g5, ← hRL.2.2.2.2.1 m g1]
    exact sp_X12_kindOf d o m (by omega) g2 (by omega)
  have hk4 := hwf.2.2.2.1
  have habμ : am_wab (μ 1) := by rw [hRK.1]; exact hwf.1
  generalize hq : sr l = s at hs h1 h15 hn3 h7 ⊢
  match s, hs with
  | 0, _ =>
    obtain ⟨b, hb, h1⟩ := h1 (by decide)
    have e : pu_actF (σ 4) (σ 1) (σ 2) (σ 3) 0 (ln l) (H, D) = (true, pu_put (nI a) (μ 30 b) (H, D)) := by
      show (true, pu_put (ln l 0) (am_oaF H (ln l 1)) (H, D)) = _
      rw [h0, h1, pu_am_oa hRM hb]
    rw [e]
    exact ⟨_, pu_RM_put hRM ha _, fun j hj => am_bfr3 (k := 0) hj, fun d => sp_X12_does_0 d l hl hL40 hRL hq ha h0 hb h1 rfl⟩
  | 1, _ =>
    obtain ⟨b, hb, h1⟩ := h1 (by decide)
    rcases hH b (by omega) with hv | ⟨o, ho, hv⟩
    · have e : pu_actF (σ 4) (σ 1) (σ 2) (σ 3) 1 (ln l) (H, D) = (true, pu_put (nI a) (-1) (H, D)) := by
        rw [← h0]; exact if_pos (by show am_oaF H (ln l 1) = -1; rw [h1, am_oaF_nI (by omega), hv])
      rw [e]
      exact ⟨_, pu_RM_put hRM ha _, fun j hj => am_bfr3 (k := 0) hj, fun d => sp_X12_does_1z d l hl hL40 hRL hq ha h0 hb h1 ((hRM.1 b hb).trans hv)⟩
    · have hoa : am_oaF H (ln l 1) = nI o := by rw [h1, am_oaF_nI (by omega), hv]
      have hne : ¬ am_oaF H (ln l 1) = -1 := by rw [hoa]; exact nI_m1 (by omega)
      have hμ := (hRM.1 b hb).trans hv
      cases hu : am_undF (σ 1) (ln l 2) 9 (σ 4 o) with
      | true =>
        have e : pu_actF (σ 4) (σ 1) (σ 2) (σ 3) 1 (ln l) (H, D) = (true, pu_put (nI a) (nI o) (H, D)) := (if_neg hne).trans (by show (bif am_undF (σ 1) (ln l 2) 9 (σ 4 (am_oaF H (ln l 1)).toNatClampNeg) then (true, pu_put (ln l 0) (am_oaF H (ln l 1)) (H, D)) else _) = _; rw [hoa, nI_clamp (by omega), hu, h0]; rfl)
        rw [e]
        exact ⟨_, pu_RM_put hRM ha _, fun j hj => am_bfr3 (k := 0) hj, fun d => sp_X12_does_1t d l hl hL40 hRL hq ha h0 hb h1 (by omega) hμ (hko o ho) (hk4 o (by omega)) habμ (by rw [hRK.1]; exact hu)⟩
      | false =>
        have e : pu_actF (σ 4) (σ 1) (σ 2) (σ 3) 1 (ln l) (H, D) = (false, H, D) := (if_neg hne).trans (by show (bif am_undF (σ 1) (ln l 2) 9 (σ 4 (am_oaF H (ln l 1)).toNatClampNeg) then _ else (false, H, D)) = _; rw [hoa, nI_clamp (by omega), hu]; rfl)
        rw [e]
        exact ⟨_, hRM, fun j hj => rfl, fun d => sp_X12_does_1f d l hl hL40 hRL hq ha h0 hb h1 (by omega) hμ (hko o ho) (hk4 o (by omega)) habμ (by rw [hRK.1]; exact hu)⟩
  | 2, _ =>
    obtain ⟨b, hb, h1⟩ := h1 (by decide)
    obtain ⟨n, hn, e2⟩ := hn3 (by decide) (by decide)
    rcases hH b (by omega) with hv | ⟨o, ho, hv⟩
    · have e : pu_actF (σ 4) (σ 1) (σ 2) (σ 3) 2 (ln l) (H, D) = (false, H, D) := if_pos (by show am_oaF H (ln l 1) = -1; rw [h1, am_oaF_nI (by omega), hv])
      rw [e]
      exact ⟨_, hRM, fun j hj => rfl, fun d => sp_X12_does_2z (d + 1) l hl hL40 hRL hq ha h0 hb h1 hn e2 ((hRM.1 b hb).trans hv)⟩
    · have hoa : am_oaF H (ln l 1) = nI o := by rw [h1, am_oaF_nI (by omega), hv]
      have hne : ¬ am_oaF H (ln l 1) = -1 := by rw [hoa]; exact nI_m1 (by omega)
      have e : pu_actF (σ 4) (σ 1) (σ 2) (σ 3) 2 (ln l) (H, D) = (true, pu_put (nI a) (μ 32 (3 * o + n)) (H, D)) := (if_neg hne).trans (by
        show (true, pu_put (ln l 0) (H (20 + 3 * (am_oaF H (ln l 1)).toNatClampNeg + (ln l 2).toNatClampNeg)) (H, D)) = _
        rw [hoa, e2, nI_clamp (by omega), nI_clamp (by omega), h0, hRM.2.2 (3 * o + n) (by omega), Nat.add_assoc])
      rw [e]
      exact ⟨_, pu_RM_put hRM ha _, fun j hj => am_bfr3 (k := 0) hj, fun d => sp_X12_does_2y d l hl hL40 hRL hq ha h0 hb h1 hn e2 (by omega) ((hRM.1 b hb).trans hv)⟩
  | 3, _ =>
    obtain ⟨b, hb, h1⟩ := h1 (by decide)
    obtain ⟨n, hn, e2⟩ := hn3 (by decide) (by decide)
    rcases hH a (by omega) with hv | ⟨o, ho, hv⟩
    · have e : pu_actF (σ 4) (σ 1) (σ 2) (σ 3) 3 (ln l) (H, D) = (false, H, D) := if_pos (by show am_oaF H (ln l 0) = -1; rw [h0, am_oaF_nI (by omega), hv])
      rw [e]
      exact ⟨_, hRM, fun j hj => rfl, fun d => sp_X12_does_3z (d + 1) l hl hL40 hRL hq ha h0 hb h1 hn e2 rfl ((hRM.1 a ha).trans hv)⟩
    · have hoa : am_oaF H (ln l 0) = nI o := by rw [h0, am_oaF_nI (by omega), hv]
      have hne : ¬ am_oaF H (ln l 0) = -1 := by rw [hoa]; exact nI_m1 (by omega)
      have e : pu_actF (σ 4) (σ 1) (σ 2) (σ 3) 3 (ln l) (H, D) = (true, pu_put (nI (20 + (3 * o + n))) (μ 30 b) (H, D)) := (if_neg hne).trans (by
        show (true, pu_put (nI (20 + 3 * (am_oaF H (ln l 0)).toNatClampNeg + (ln l 2).toNatClampNeg)) (am_oaF H (ln l 1)) (H, D)) = _
        rw [hoa, e2, nI_clamp (by omega), nI_clamp (by omega), h1, pu_am_oa hRM hb, Nat.add_assoc])
      rw [e]
      exact ⟨_, pu_RM_fld hRM (by omega) _, fun j hj => am_up_ne (by omega), fun d => sp_X12_does_3y (d + 1) l hl hL40 hRL hq ha h0 hb h1 hn e2 rfl (by omega) ((hRM.1 a ha).trans hv)⟩
  | 4, _ =>
    obtain ⟨b, hb, h1⟩ := h1 (by decide)
    obtain ⟨n, hn, e2⟩ := hn3 (by decide) (by decide)
    obtain ⟨z, hz, h7⟩ := h7 rfl
    rcases hH b (by omega) with hv | ⟨o, ho, hv⟩
    · have e : pu_actF (σ 4) (σ 1) (σ 2) (σ 3) 4 (ln l) (H, D) = (false, H, D) := if_pos (by show am_oaF H (ln l 1) = -1; rw [h1, am_oaF_nI (by omega), hv])
      rw [e]
      exact ⟨_, hRM, fun j hj => rfl, fun d => sp_X12_does_4z (d + 1) l hl hL40 hRL hq ha h0 hb h1 hn e2 hz h7 ((hRM.1 b hb).trans hv)⟩
    · have hoa : am_oaF H (ln l 1) = nI o := by rw [h1, am_oaF_nI (by omega), hv]
      have hne : ¬ am_oaF H (ln l 1) = -1 := by rw [hoa]; exact nI_m1 (by omega)
      have hμ := (hRM.1 b hb).trans hv
      have e : pu_actF (σ 4) (σ 1) (σ 2) (σ 3) 4 (ln l) (H, D) = pu_clA (σ 3) (ln l) (nI o) (am_aimF (σ 1) (σ 2) n 9 (σ 4 o)) (H, D) := (if_neg hne).trans (by
        show pu_clA (σ 3) (ln l) (am_oaF H (ln l 1)) (am_aimF (σ 1) (σ 2) (ln l 2).toNatClampNeg 9 (σ 4 (am_oaF H (ln l 1)).toNatClampNeg)) (H, D) = _
        rw [hoa, e2, nI_clamp (by omega), nI_clamp (by omega)])
      rw [e]
      rcases am_aimF_pl hwf.1 hwf.2.1 hn 9 _ (hk4 o (by omega)) with hg | ⟨q, hq6, hg⟩
      · have e3 : pu_clA (σ 3) (ln l) (nI o) (am_aimF (σ 1) (σ 2) n 9 (σ 4 o)) (H, D) = (false, H, D) := if_pos hg
        rw [e3]
        exact ⟨_, hRM, fun j hj => rfl, fun d => sp_X12_does_4n d l hl hL40 hRL hq ha h0 hb h1 hn e2 hz h7 (by omega) hμ (hko o ho) (hk4 o (by omega)) hwf.1 hRK hg⟩
      · have hgn : ¬ am_aimF (σ 1) (σ 2) n 9 (σ 4 o) = -1 := by rw [hg]; exact nI_m1 (by omega)
        have e3 : pu_clA (σ 3) (ln l) (nI o) (am_aimF (σ 1) (σ 2) n 9 (σ 4 o)) (H, D) = if σ 3 (3 * q + 2) = -1 then (true, pu_put (σ 3 (3 * q + 1)) (am_oaF H (ln l 7)) (pu_put (σ 3 (3 * q + 0)) (nI o) (H, D))) else (true, pu_put (ln l 0) (am_oaF (pu_put (σ 3 (3 * q + 1)) (am_oaF H (ln l 7)) (pu_put (σ 3 (3 * q + 0)) (nI o) (H, D))).1 (σ 3 (3 * q + 2))) (pu_put (σ 3 (3 * q + 1)) (am_oaF H (ln l 7)) (pu_put (σ 3 (3 * q + 0)) (nI o) (H, D)))) := by
          unfold pu_clA
          rw [if_neg hgn, hg, nI_clamp (by omega)]
        rw [e3, h0, h7, pu_am_oa hRM hz]
        rcases hwf.2.2.1 (3 * q + 0) (by omega) with e0 | ⟨s0, hs0, e0⟩ <;> rcases hwf.2.2.1 (3 * q + 1) (by omega) with e1 | ⟨s1, hs1, e1⟩ <;> rcases hwf.2.2.1 (3 * q + 2) (by omega) with e2' | ⟨s2, hs2, e2'⟩
        · rw [if_pos e2', e0, e1]
          rw [show pu_put (-1) (μ 30 z) (pu_put (-1) (nI o) (H, D)) = (H, D) from rfl]
          exact ⟨_, hRM, fun j hj => by rfl, fun d => sp_X12_does_4y0 d l hl hL40 hRL hq ha h0 hb h1 hn e2 hz h7 (by omega) hμ (hko o ho) (hk4 o (by omega)) hwf.1 hRK hq6 hg e0 e1 e2'⟩
        · rw [if_neg (by rw [e2']; exact nI_m1 (by omega)), e0, e1, e2']
          rw [show pu_put (-1) (μ 30 z) (pu_put (-1) (nI o) (H, D)) = (H, D) from rfl]
          rw [pu_am_oa hRM hs2]
          exact ⟨_, pu_RM_put hRM ha _, fun j hj => by rw [am_up_ne (by omega), am_up_ne (by omega)], fun d => sp_X12_does_4y4 d l hl hL40 hRL hq ha h0 hb h1 hn e2 hz h7 (by omega) hμ (hko o ho) (hk4 o (by omega)) hwf.1 hRK hq6 hg e0 e1 hs2 e2'⟩
        · rw [if_pos e2', e0, e1]
          have k1 := pu_RM_put hRM hs1 (μ 30 z)
          rw [show pu_put (nI s1) (μ 30 z) (pu_put (-1) (nI o) (H, D)) = ((am_pt1 (nI s1) (μ 30 z) H), (am_pt2 (nI s1) (μ 30 z) D)) from rfl]
          exact ⟨_, k1, fun j hj => by rw [am_up_ne (by omega), am_up_ne (by omega)], fun d => sp_X12_does_4y2 d l hl hL40 hRL hq ha h0 hb h1 hn e2 hz h7 (by omega) hμ (hko o ho) (hk4 o (by omega)) hwf.1 hRK hq6 hg e0 hs1 e1 e2'⟩
        · rw [if_neg (by rw [e2']; exact nI_m1 (by omega)), e0, e1, e2']
          have k1 := pu_RM_put hRM hs1 (μ 30 z)
          rw [show pu_put (nI s1) (μ 30 z) (pu_put (-1) (nI o) (H, D)) = ((am_pt1 (nI s1) (μ 30 z) H), (am_pt2 (nI s1) (μ 30 z) D)) from rfl]
          rw [pu_am_oa k1 hs2]
          exact ⟨_, pu_RM_put k1 ha _, fun j hj => by rw [am_up_ne (by omega), am_up_ne (by omega), am_up_ne (by omega), am_up_ne (by omega)], fun d => sp_X12_does_4y6 d l hl hL40 hRL hq ha h0 hb h1 hn e2 hz h7 (by omega) hμ (hko o ho) (hk4 o (by omega)) hwf.1 hRK hq6 hg e0 hs1 e1 hs2 e2'⟩
        · rw [if_pos e2', e0, e1]
          have k0 := pu_RM_put hRM hs0 (nI o)
          rw [show pu_put (-1) (μ 30 z) (pu_put (nI s0) (nI o) (H, D)) = ((am_pt1 (nI s0) (nI o) H), (am_pt2 (nI s0) (nI o) D)) from rfl]
          exact ⟨_, k0, fun j hj => by rw [am_up_ne (by omega), am_up_ne (by omega)], fun d => sp_X12_does_4y1 d l hl hL40 hRL hq ha h0 hb h1 hn e2 hz h7 (by omega) hμ (hko o ho) (hk4 o (by omega)) hwf.1 hRK hq6 hg hs0 e0 e1 e2'⟩
        · rw [if_neg (by rw [e2']; exact nI_m1 (by omega)), e0, e1, e2']
          have k0 := pu_RM_put hRM hs0 (nI o)
          rw [show pu_put (-1) (μ 30 z) (pu_put (nI s0) (nI o) (H, D)) = ((am_pt1 (nI s0) (nI o) H), (am_pt2 (nI s0) (nI o) D)) from rfl]
          rw [pu_am_oa k0 hs2]
          exact ⟨_, pu_RM_put k0 ha _, fun j hj => by rw [am_up_ne (by omega), am_up_ne (by omega), am_up_ne (by omega), am_up_ne (by omega)], fun d => sp_X12_does_4y5 d l hl hL40 hRL hq ha h0 hb h1 hn e2 hz h7 (by omega) hμ (hko o ho) (hk4 o (by omega)) hwf.1 hRK hq6 hg hs0 e0 e1 hs2 e2'⟩
        · rw [if_pos e2', e0, e1]
          have k0 := pu_RM_put hRM hs0 (nI o)
          have k1 := pu_RM_put k0 hs1 (μ 30 z)
          rw [show pu_put (nI s1) (μ 30 z) (pu_put (nI s0) (nI o) (H, D)) = ((am_pt1 (nI s1) (μ 30 z) (am_pt1 (nI s0) (nI o) H)), (am_pt2 (nI s1) (μ 30 z) (am_pt2 (nI s0) (nI o) D))) from rfl]
          exact ⟨_, k1, fun j hj => by rw [am_up_ne (by omega), am_up_ne (by omega), am_up_ne (by omega), am_up_ne (by omega)], fun d => sp_X12_does_4y3 d l hl hL40 hRL hq ha h0 hb h1 hn e2 hz h7 (by omega) hμ (hko o ho) (hk4 o (by omega)) hwf.1 hRK hq6 hg hs0 e0 hs1 e1 e2'⟩
        · rw [if_neg (by rw [e2']; exact nI_m1 (by omega)), e0, e1, e2']
          have k0 := pu_RM_put hRM hs0 (nI o)
          have k1 := pu_RM_put k0 hs1 (μ 30 z)
          rw [show pu_put (nI s1) (μ 30 z) (pu_put (nI s0) (nI o) (H, D)) = ((am_pt1 (nI s1) (μ 30 z) (am_pt1 (nI s0) (nI o) H)), (am_pt2 (nI s1) (μ 30 z) (am_pt2 (nI s0) (nI o) D))) from rfl]
          rw [pu_am_oa k1 hs2]
          exact ⟨_, pu_RM_put k1 ha _, fun j hj => by rw [am_up_ne (by omega), am_up_ne (by omega), am_up_ne (by omega), am_up_ne (by omega), am_up_ne (by omega), am_up_ne (by omega)], fun d => sp_X12_does_4y7 d l hl hL40 hRL hq ha h0 hb h1 hn e2 hz h7 (by omega) hμ (hko o ho) (hk4 o (by omega)) hwf.1 hRK hq6 hg hs0 e0 hs1 e1 hs2 e2'⟩
  | 5, _ =>
    have e : pu_actF (σ 4) (σ 1) (σ 2) (σ 3) 5 (ln l) (H, D) = (true, pu_put (nI a) (ln l 7) (H, D)) := by
      show (true, pu_put (ln l 0) (ln l 7) (H, D)) = _
      rw [h0]
    rw [e]
    exact ⟨_, pu_RM_put hRM ha _, fun j hj => am_bfr3 (k := 0) hj, fun d => sp_X12_does_5 d l hl hL40 hRL hq ha h0 (h15 rfl)⟩
end MM
