/-! the reference: feed and line refused -/
section MF
variable {xs : Nat → Int32} {LL : Nat} {σ μ : Nat → Nat → Int32} {sr : Nat → Nat} {ln : Nat → Nat → Int32} {Lc : Nat}
theorem sp_X12_feed_bad (d : Nat) (n : Int32) (w : Int64) (hb : decide ((1 : Int64) ≤ n.toInt64 ∧ n.toInt64 ≤ 8) = false) : am_X xs LL (d + 2) 156 [.ref 47, .int n, .long w] (hG σ sr ln Lc μ) (some (.int (-2))) (hG σ sr ln Lc μ) := by
  refine am_XR (d := d + 1) (C := cd_X12_feed) (L := [some (.ref 47), some (.int n), some (.long w), none, none]) rfl rfl rfl rfl ?_
  refine am_g 4 6 [some (.ref 47), some (.int n), some (.long w), none, none] [.long 8, .long 1, .long (n.toInt64)] (hG σ sr ln Lc μ) rfl ?_
  refine am_call (y := 140) (vs := [.long (n.toInt64), .long 1, .long 8]) (rest := []) (v := (some (.int 0))) (h1 := (hG σ sr ln Lc μ)) rfl rfl rfl (sp_X12_in_b d _ _ _ _ hb) ?_
  refine am_g 2 14 [some (.ref 47), some (.int n), some (.long w), none, none] [.int (-2)] (hG σ sr ln Lc μ) rfl ?_
  exact am_ret2 rfl rfl rfl rfl rfl
theorem sp_X12_feed_full (d : Nat) {T : Nat} (hT : μ 21 0 = nI T) (hT20 : T ≤ 20) (n : Int32) (w : Int64) (hb : decide ((1 : Int64) ≤ n.toInt64 ∧ n.toInt64 ≤ 8) = true) (h : 20 < μ 21 0 + n) : am_X xs LL (d + 2) 156 [.ref 47, .int n, .long w] (hG σ sr ln Lc μ) (some (.int (-4))) (hG σ sr ln Lc μ) := by
  refine am_XR (d := d + 1) (C := cd_X12_feed) (L := [some (.ref 47), some (.int n), some (.long w), none, none]) rfl rfl rfl rfl ?_
  refine am_g 4 6 [some (.ref 47), some (.int n), some (.long w), none, none] [.long 8, .long 1, .long (n.toInt64)] (hG σ sr ln Lc μ) rfl ?_
  refine am_call (y := 140) (vs := [.long (n.toInt64), .long 1, .long 8]) (rest := []) (v := (some (.int 1))) (h1 := (hG σ sr ln Lc μ)) rfl rfl rfl (sp_X12_in_b d _ _ _ _ hb) ?_
  refine am_g 7 (if ((μ 21 0) + n) ≤ 20 then 29 else 26) [some (.ref 47), some (.int n), some (.long w), none, none] [] (hG σ sr ln Lc μ) rfl ?_
  rw [if_neg (show ¬ ((μ 21 0) + n) ≤ 20 from (Int32.not_le.mpr h))]
  refine am_g 1 28 [some (.ref 47), some (.int n), some (.long w), none, none] [.int (-4)] (hG σ sr ln Lc μ) rfl ?_
  exact am_ret2 rfl rfl rfl rfl rfl
end MF
