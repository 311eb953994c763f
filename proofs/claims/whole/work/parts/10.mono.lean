/-! a step makes the heap no smaller -/
def am_le (h h' : am_H) : Prop := h.length ≤ h'.length ∧ am_sz h ≤ am_sz h'
theorem am_le_rf (h : am_H) : am_le h h := ⟨Nat.le_refl _, Nat.le_refl _⟩
theorem am_le_tr {h h1 h2 : am_H} (a : am_le h h1) (b : am_le h1 h2) : am_le h h2 := ⟨Nat.le_trans a.1 b.1, Nat.le_trans a.2 b.2⟩
theorem am_le_app (h : am_H) (x : am_E) : am_le h (h ++ [x]) := ⟨by simp, by rw [am_sz_app]; omega⟩
theorem am_le_put {h : am_H} {r : Nat} {x y : am_E} (hg : am_get h r = some y) (he : am_sz1 x = am_sz1 y) : am_le h (am_put h r x) := ⟨by rw [am_put_len]; exact Nat.le_refl _, by rw [am_put_sz hg he]; exact Nat.le_refl _⟩
theorem am_le_of {h : am_H} {pc : Nat} {L : am_L} {st : List Value} {h1 : am_H} {S : am_S} (hs : some (pc, L, st, h1) = some S) (k : am_le h h1) : am_le h S.2.2.2 := by
  cases hs
  exact k
theorem am_bif {b : Bool} {x y : Option am_S} {S : am_S} (h : (bif b then x else y) = some S) : x = some S ∨ y = some S := by
  cases b
  · exact Or.inr h
  · exact Or.inl h
set_option maxHeartbeats 8000000 in
theorem am_step_le {xs : Nat → Int32} {LL : Nat} {en : am_En} {pc : Nat} {L : am_L} {st : List Value} {h : am_H} {S : am_S} (hs : am_step xs LL en pc L st h = some S) : am_le h S.2.2.2 := by
  obtain ⟨i, ln, a, v, tg, ps⟩ := en
  unfold am_step at hs
  dsimp only at hs
  split at hs
  all_goals first
    | exact am_le_of hs (am_le_rf _)
    | exact am_le_of hs (am_le_app _ _)
    | skip
  all_goals (repeat' (split at hs))
  all_goals first
    | exact am_le_of hs (am_le_rf _)
    | exact am_le_of hs (am_le_app _ _)
    | (cases hs; done)
    | exact am_le_of hs (am_le_put (by assumption) (by simp [am_sz1]))
    | skip
  all_goals (try (rcases am_bif hs with hs | hs))
  all_goals (repeat' (split at hs))
  all_goals (try first
    | exact am_le_of hs (am_le_rf _)
    | exact am_le_of hs (am_le_app _ _)
    | (cases hs; done)
    | exact am_le_of hs (am_le_put (by assumption) (by simp [am_sz1])))
  all_goals (try (rcases am_bif hs with hs | hs))
  all_goals (repeat' (split at hs))
  all_goals (try first
    | exact am_le_of hs (am_le_rf _)
    | exact am_le_of hs (am_le_app _ _)
    | (cases hs; done)
    | exact am_le_of hs (am_le_put (by assumption) (by simp [am_sz1])))
  all_goals (try (rcases am_bif hs with hs | hs))
  all_goals (repeat' (split at hs))
  all_goals (try first
    | exact am_le_of hs (am_le_rf _)
    | exact am_le_of hs (am_le_app _ _)
    | (cases hs; done)
    | exact am_le_of hs (am_le_put (by assumption) (by simp [am_sz1])))
  all_goals (try (rcases am_bif hs with hs | hs))
  all_goals (repeat' (split at hs))
  all_goals (try first
    | exact am_le_of hs (am_le_rf _)
    | exact am_le_of hs (am_le_app _ _)
    | (cases hs; done)
    | exact am_le_of hs (am_le_put (by assumption) (by simp [am_sz1])))
