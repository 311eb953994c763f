/-- OPEN: the contracts of String's three methods over the constants -/
theorem am_prims (l : Launch) (D : va_G) (tc : Nat → Nat) (b N0 : Nat) (sa sv : Nat → Nat) (LL : Nat) (xs : Nat → Int32) (hbN : b < N0) : ∀ d y vs h r h', 5 ≤ d → am_prim y vs h r h' → am_KM l D tc b N0 sa sv LL xs (d + 1) y vs h r h' := by
  sorry
/-- OPEN: the law, over the pure machine -/
theorem pure_law (LL : Nat) (xs : Nat → Int32) (hL : LL ≤ 3072) : ∃ f h', am_Run xs LL cd_L_law (am_X xs LL 11) f 0 (am_ent 4 [.ref 0]) [] [] (some (.int 1)) h' ∧ h'.length ≤ 600000 ∧ am_sz h' ≤ 7302250 := by
  sorry
