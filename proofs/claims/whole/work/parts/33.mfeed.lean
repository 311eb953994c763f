/-! the reference: feed and line refused -/
section MF
variable {xs : Nat → Int32} {LL : Nat} {σ μ : Nat → Nat → Int32} {sr : Nat → Nat} {ln : Nat → Nat → Int32} {Lc : Nat}
theorem sp_X12_feed_bad (d : Nat) (n : Int32) (w : Int64) (hb : decide ((1 : Int64) ≤ n.toInt64 ∧ n.toInt64 ≤ 8) = false) : am_X xs LL (d + 2) 156 [.ref 47, .int n, .long w] (hG σ sr ln Lc μ) (some (.int (-2))) (hG σ sr ln Lc μ) := by
  refine am_XR (d := d + 1) (C := cd_X12_feed) (L := [some (.ref 47), some (.int n), some (.long w), none, none]) rfl rfl rfl rfl ?_
  refine am_g 4 6 [some (.ref 47), some (.int n), some (.long w), none, none] [.long 8, .long 1, .long (n.toInt64)] (hG σ sr ln Lc μ) rfl ?_
  refine am_call (y := 140) (vs := [.long (n.toInt64), .long 1, .long 8]) (rest := []) (v := (some (.int 0))) (h1 := (hG σ sr ln Lc μ)) rfl rfl rfl (sp_X12_in_b d _ _ _ _ hb) ?_
  refine am_g 2 14 [some (.ref 47), some (.int n), some (.long w), none, none] [.int (-2)] (hG σ sr ln Lc μ) rfl ?_
  exact am_ret2 rfl rfl rfl rfl rfl
theorem sp_X12_feed_full (d : Nat) {T : Nat} (hT : μ 21 0 = nI T) (hT20 : T ≤ 20) (n : Int32) (w : Int64) (hb : decide ((1 : Int64) ≤ n.toInt64 ∧ n.toInt64 ≤ 8) = true) (h : 20 < μ 21 0 + n) : am_X xs LL (d + 2) 156 [.ref 47, .int n, .long w] (hG σ sr ln Lc μ) (some (.int (-4))) (hG σ sr ln Lc μ) := by
  refine am_XR (d := d + 1) (C := cd_X12_feed) (L := [some (.ref 47), some (.int n), some (.long w), none, none]) rfl rfl rfl rfl ?_
  refine am_g 4 6 [some (.ref 47), some (.int n), some (.long w), none, none] [.long 8, .long 1, .long (n.toInt64)] (hG σ sr ln Lc μ) rfl ?_
  refine am_call (y := 140) (vs := [.long (n.toInt64), .long 1, .long 8]) (rest := []) (v := (some (.int 1))) (h1 := (hG σ sr ln Lc μ)) rfl rfl rfl (sp_X12_in_b d _ _ _ _ hb) ?_
  refine am_g 7 (if ((μ 21 0) + n) ≤ 20 then 29 else 26) [some (.ref 47), some (.int n), some (.long w), none, none] [] (hG σ sr ln Lc μ) rfl ?_
  rw [if_neg (show ¬ ((μ 21 0) + n) ≤ 20 from (Int32.not_le.mpr h))]
  refine am_g 1 28 [some (.ref 47), some (.int n), some (.long w), none, none] [.int (-4)] (hG σ sr ln Lc μ) rfl ?_
  exact am_ret2 rfl rfl rfl rfl rfl
def am_bt (w : Int64) (i : Nat) : Int32 := ((w >>> ((8 * (nI i)).toInt64 &&& 63)) &&& 255).toInt32
theorem am_fillw_up {w : Int64} {T : Nat} {f : Nat → Int32} {n i : Nat} (h : i < n) : am_fill (fun k => am_bt w (k - T)) (upd f i (am_bt w (i - T))) n (i + 1) = am_fill (fun k => am_bt w (k - T)) f n i := am_fill_up (g := fun k => am_bt w (k - T)) h
theorem am_1to8 {q : Nat} (h1 : 1 ≤ q) (h8 : q ≤ 8) : decide ((1 : Int64) ≤ (nI q).toInt64 ∧ (nI q).toInt64 ≤ 8) = true := by
  have h : q = 1 ∨ q = 2 ∨ q = 3 ∨ q = 4 ∨ q = 5 ∨ q = 6 ∨ q = 7 ∨ q = 8 := by omega
  rcases h with rfl | rfl | rfl | rfl | rfl | rfl | rfl | rfl <;> decide
theorem am_fd {m : Int32} {T q : Nat} (hT : m = nI T) (h : T + q ≤ 20) : m + nI q ≤ 20 :=
  am_dle (a := T + q) (b := 20) (by rw [hT]; exact (Int32.ofNat_add T q).symm) rfl (by omega) (by omega) (by omega)
theorem sp_X12_feed_ok (d : Nat) {T : Nat} (hT : μ 21 0 = nI T) (hT20 : T ≤ 20) (q : Nat) (w : Int64) (h1 : 1 ≤ q) (h8 : q ≤ 8) (h : T + q ≤ 20) : am_X xs LL (d + 2) 156 [.ref 47, .int (nI q), .long w] (hG σ sr ln Lc μ) (some (.int (nI (T + q)))) (hG σ sr ln Lc (am_us (am_up μ 20 (am_fill (fun k => am_bt w (k - T)) (μ 20) (T + q) T)) 21 (nI (T + q)))) := by
  refine am_XR (d := d + 1) (C := cd_X12_feed) (L := [some (.ref 47), some (.int (nI q)), some (.long w), none, none]) rfl rfl rfl rfl ?_
  refine am_g 4 6 [some (.ref 47), some (.int (nI q)), some (.long w), none, none] [.long 8, .long 1, .long ((nI q).toInt64)] (hG σ sr ln Lc μ) rfl ?_
  refine am_call (y := 140) (vs := [.long ((nI q).toInt64), .long 1, .long 8]) (rest := []) (v := (some (.int 1))) (h1 := (hG σ sr ln Lc μ)) rfl rfl rfl (sp_X12_in_b d _ _ _ _ (am_1to8 h1 h8)) ?_
  refine am_g 7 (if ((μ 21 0) + (nI q)) ≤ 20 then 29 else 26) [some (.ref 47), some (.int (nI q)), some (.long w), none, none] [] (hG σ sr ln Lc μ) rfl ?_
  rw [if_pos (show ((μ 21 0) + (nI q)) ≤ 20 from (am_fd hT h))]
  refine am_g 2 32 [some (.ref 47), some (.int (nI q)), some (.long w), none, some (.int 0)] [] (hG σ sr ln Lc μ) rfl ?_
  have lp : ∀ (r i u : Nat) (F : Nat → Int32), i + r = q → u = T + i → am_R xs LL cd_X12_feed (am_X xs LL (d + 1)) 32 [some (.ref 47), some (.int (nI q)), some (.long w), none, some (.int (nI i))] [] (hG σ sr ln Lc (am_us (am_up μ 20 F) 21 (nI u))) (some (.int (nI (T + q)))) (hG σ sr ln Lc (am_us (am_up μ 20 (am_fill (fun k => am_bt w (k - T)) F (T + q) u)) 21 (nI (T + q)))) := by
    intro r
    induction r with
    | zero =>
      intro i u F hi hu
      have hi2 : u = T + q := by omega
      refine am_g 3 (if (nI q) ≤ (nI i) then 75 else 38) [some (.ref 47), some (.int (nI q)), some (.long w), none, some (.int (nI i))] [] (hG σ sr ln Lc (am_us (am_up μ 20 F) 21 (nI u))) rfl ?_
      rw [if_pos (show (nI q) ≤ (nI i) from (am_dle (a := q) (b := i) (rfl) (rfl) (by omega) (by omega) (by omega)))]
      refine am_g 2 79 [some (.ref 47), some (.int (nI q)), some (.long w), none, some (.int (nI i))] [.int (nI u)] (hG σ sr ln Lc (am_us (am_up μ 20 F) 21 (nI u))) rfl ?_
      exact am_ret2 rfl rfl rfl (by rw [hi2]) (by rw [hi2, am_fill_end])
    | succ r ih =>
      intro i u F hi hu
      have hi2 : i < q := by omega
      refine am_g 3 (if (nI q) ≤ (nI i) then 75 else 38) [some (.ref 47), some (.int (nI q)), some (.long w), none, some (.int (nI i))] [] (hG σ sr ln Lc (am_us (am_up μ 20 F) 21 (nI u))) rfl ?_
      rw [if_neg (show ¬ (nI q) ≤ (nI i) from (am_dnle (a := q) (b := i) (rfl) (rfl) (by omega) (by omega) (by omega)))]
      refine am_g 12 58 [some (.ref 47), some (.int (nI q)), some (.long w), none, some (.int (nI i))] [.int (((w >>> ((8 * (nI i)).toInt64 &&& 63)) &&& 255).toInt32), .int (nI u), .ref 64] (hG σ sr ln Lc (am_us (am_up μ 20 F) 21 (nI u))) rfl ?_
      refine am_iastR (n := 20) (f := F) (k := u) (h1 := (hG σ sr ln Lc (am_up (am_us μ 21 (nI u)) 20 (upd F u (((w >>> ((8 * (nI i)).toInt64 &&& 63)) &&& 255).toInt32))))) rfl rfl (rfl) (by omega) (by decide) rfl ?_
      refine am_g 8 32 [some (.ref 47), some (.int (nI q)), some (.long w), none, some (.int ((nI i) + 1))] [] (hG σ sr ln Lc (am_us (am_up μ 20 (upd F u (((w >>> ((8 * (nI i)).toInt64 &&& 63)) &&& 255).toInt32))) 21 ((nI u) + 1))) rfl ?_
      rw [nI_up i, nI_up u, show ((w >>> ((8 * (nI i)).toInt64 &&& 63)) &&& 255).toInt32 = am_bt w (u - T) from by rw [show u - T = i by omega]; rfl]
      have e := ih (i + 1) (u + 1) (upd F u (am_bt w (u - T))) (by omega) (by omega)
      rw [am_fillw_up (by omega)] at e
      exact e
  have e := lp q 0 T (μ 20) (by omega) (by omega)
  rw [← hT] at e
  exact e
theorem sp_X12_line_full (d : Nat) (a b : Int32) (h1 : am_in a 3 = true) (h2 : am_in b 4 = true) (h : μ 17 0 = 40) : am_X xs LL (d + 3) 162 [.ref 47, .int a, .int b] (hG σ sr ln Lc μ) (some (.int (-4))) (hG σ sr ln Lc μ) := by
  refine am_XR (d := d + 2) (C := cd_X12_line) (L := [some (.ref 47), some (.int a), some (.int b)]) rfl rfl rfl rfl ?_
  refine am_g 4 6 [some (.ref 47), some (.int a), some (.int b)] [.long 2, .long 0, .long (a.toInt64)] (hG σ sr ln Lc μ) rfl ?_
  refine am_call (y := 140) (vs := [.long (a.toInt64), .long 0, .long 2]) (rest := []) (v := (some (.int 1))) (h1 := (hG σ sr ln Lc μ)) rfl rfl rfl (sp_X12_in_b (d + 1) _ _ _ _ ((am_in64c (by decide)).trans h1)) ?_
  refine am_g 5 18 [some (.ref 47), some (.int a), some (.int b)] [.long 3, .long 0, .long (b.toInt64)] (hG σ sr ln Lc μ) rfl ?_
  refine am_call (y := 140) (vs := [.long (b.toInt64), .long 0, .long 3]) (rest := []) (v := (some (.int 1))) (h1 := (hG σ sr ln Lc μ)) rfl rfl rfl (sp_X12_in_b (d + 1) _ _ _ _ ((am_in64c (by decide)).trans h2)) ?_
  refine am_g 5 (if (μ 17 0) = 40 then 36 else 39) [some (.ref 47), some (.int a), some (.int b)] [] (hG σ sr ln Lc μ) rfl ?_
  rw [if_pos (show (μ 17 0) = 40 from h)]
  refine am_g 1 38 [some (.ref 47), some (.int a), some (.int b)] [.int (-4)] (hG σ sr ln Lc μ) rfl ?_
  exact am_ret2 rfl rfl rfl rfl rfl
theorem sp_X12_line_bad (d : Nat) (a b : Int32) (hbad : (am_in a 3 && am_in b 4) = false) : am_X xs LL (d + 3) 162 [.ref 47, .int a, .int b] (hG σ sr ln Lc μ) (some (.int (-2))) (hG σ sr ln Lc μ) := by
  refine am_XR (d := d + 2) (C := cd_X12_line) (L := [some (.ref 47), some (.int a), some (.int b)]) rfl rfl rfl rfl ?_
  refine am_g 4 6 [some (.ref 47), some (.int a), some (.int b)] [.long 2, .long 0, .long (a.toInt64)] (hG σ sr ln Lc μ) rfl ?_
  cases e1 : decide (0 ≤ (a.toInt64) ∧ (a.toInt64) ≤ 2) with
  | false =>
    refine am_call (y := 140) (vs := [.long (a.toInt64), .long 0, .long 2]) (rest := []) (v := (some (.int 0))) (h1 := (hG σ sr ln Lc μ)) rfl rfl rfl (sp_X12_in_b (d + 1) _ _ _ _ e1) ?_
    refine am_g 2 26 [some (.ref 47), some (.int a), some (.int b)] [.int (-2)] (hG σ sr ln Lc μ) rfl ?_
    exact am_ret2 rfl rfl rfl rfl rfl
  | true =>
    refine am_call (y := 140) (vs := [.long (a.toInt64), .long 0, .long 2]) (rest := []) (v := (some (.int 1))) (h1 := (hG σ sr ln Lc μ)) rfl rfl rfl (sp_X12_in_b (d + 1) _ _ _ _ e1) ?_
    refine am_g 5 18 [some (.ref 47), some (.int a), some (.int b)] [.long 3, .long 0, .long (b.toInt64)] (hG σ sr ln Lc μ) rfl ?_
    cases e2 : decide (0 ≤ (b.toInt64) ∧ (b.toInt64) ≤ 3) with
    | false =>
      refine am_call (y := 140) (vs := [.long (b.toInt64), .long 0, .long 3]) (rest := []) (v := (some (.int 0))) (h1 := (hG σ sr ln Lc μ)) rfl rfl rfl (sp_X12_in_b (d + 1) _ _ _ _ e2) ?_
      refine am_g 2 26 [some (.ref 47), some (.int a), some (.int b)] [.int (-2)] (hG σ sr ln Lc μ) rfl ?_
      exact am_ret2 rfl rfl rfl rfl rfl
    | true =>
      refine am_call (y := 140) (vs := [.long (b.toInt64), .long 0, .long 3]) (rest := []) (v := (some (.int 1))) (h1 := (hG σ sr ln Lc μ)) rfl rfl rfl (sp_X12_in_b (d + 1) _ _ _ _ e2) ?_
      refine am_g 1 27 [some (.ref 47), some (.int a), some (.int b)] [] (hG σ sr ln Lc μ) rfl ?_
      rw [am_in64c (n := 3) (by decide)] at e1
      rw [am_in64c (n := 4) (by decide)] at e2
      rw [e1, e2] at hbad
      cases hbad
end MF
