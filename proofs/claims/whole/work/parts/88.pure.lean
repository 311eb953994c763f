/-- the law, over the pure machine -/
theorem pure_law (LL : Nat) (xs : Nat → Int32) (hL : LL ≤ 3072) : ∃ f h', am_Run xs LL cd_L_law (am_X xs LL 11) f 0 (am_ent 4 [.ref 0]) [] [] (some (.int 1)) h' ∧ h'.length ≤ 600000 ∧ am_sz h' ≤ 7302250 := by
  obtain ⟨h', ⟨f, hf⟩, h1, h2⟩ := st_law LL xs hL
  exact ⟨f, h', hf, h1, h2⟩
