/-! rows for the cell of a new line: the last one -/
section NW
variable {xs : Nat → Int32} {LL : Nat} {σ μ : Nat → Nat → Int32} {Lc n : Nat} {cs : am_H} {e e2 : am_E} {C : Nat → Option am_En} {K : Nat → List Value → am_H → Option Value → am_H → Prop} {pc : Nat} {L : am_L} {st : List Value} {r : Option Value} {h' : am_H}
theorem am_lenX : (hXC σ Lc μ cs).length = 61 + cs.length := by
  show (hXM σ Lc μ ++ cs).length = _
  rw [List.length_append]
  rfl
theorem am_getX (hc : cs.length = n) : am_get (hXC σ Lc μ (cs ++ [e])) (75 + n) = some e := by
  unfold am_get
  rw [show Nat.blt (75 + n) 14 = false from by rw [← Bool.not_eq_true, Nat.blt_eq]; omega, cond_false]
  show (hXM σ Lc μ ++ (cs ++ [e]))[75 + n - 14]? = _
  rw [List.getElem?_append_right (by show 61 ≤ 75 + n - 14; omega)]
  rw [show 75 + n - 14 - (hXM σ Lc μ).length = n from by show 75 + n - 14 - 61 = n; omega]
  rw [← hc, List.getElem?_append_right (Nat.le_refl _), Nat.sub_self]
  rfl
theorem am_putX (hc : cs.length = n) : am_put (hXC σ Lc μ (cs ++ [e])) (75 + n) e2 = hXC σ Lc μ (cs ++ [e2]) := by
  unfold am_put
  show (hXM σ Lc μ ++ (cs ++ [e])).set (75 + n - 14) e2 = hXM σ Lc μ ++ (cs ++ [e2])
  rw [List.set_append_right _ _ (by show 61 ≤ 75 + n - 14; omega)]
  rw [show 75 + n - 14 - (hXM σ Lc μ).length = n from by show 75 + n - 14 - 61 = n; omega]
  rw [← hc, List.set_append_right _ _ (Nat.le_refl _), Nat.sub_self]
  rfl
theorem am_nputR {a ci y : Nat} {w : Value} {fs : List Value} {w0 : Value} {idx : Nat} {ln0 : Nat} {v : Int} {tg : List (Nat × Nat)} {ps : List Nat} (hcs : cs.length = n) (hc : C pc = some (.putfield idx, ln0, a, v, tg, ps)) (hl : am_look tg ci = some y) (hf : fs[a]? = some w0) (hw : am_fit v w = true) (kk : am_R xs LL C K (pc + 3) L st (hXC σ Lc μ (cs ++ [.inr (ci, fs.set a w)])) r h') : am_R xs LL C K pc L (w :: .ref (75 + n) :: st) (hXC σ Lc μ (cs ++ [.inr (ci, fs)])) r h' := by
  refine am_R1 (S := (pc + 3, L, st, hXC σ Lc μ (cs ++ [.inr (ci, fs.set a w)]))) hc rfl ?_ kk
  dsimp only [am_step]
  rw [am_getX hcs]
  dsimp only
  rw [hl, hf, hw]
  dsimp only
  rw [am_putX hcs]
theorem am_newR {a : Nat} {idx : Nat} {ln0 : Nat} {v : Int} {tg : List (Nat × Nat)} {ps : List Nat} (hcs : cs.length = n) (hc : C pc = some (.new idx, ln0, a, v, tg, ps)) (kk : am_R xs LL C K (pc + 3) L (.ref (75 + n) :: st) (hXC σ Lc μ (cs ++ [.inr (a, am_dflt a)])) r h') : am_R xs LL C K pc L st (hXC σ Lc μ cs) r h' := by
  refine am_R1 (S := (pc + 3, L, .ref (75 + n) :: st, hXC σ Lc μ (cs ++ [.inr (a, am_dflt a)]))) hc rfl ?_ kk
  dsimp only [am_step]
  rw [am_lenX, hcs, show 61 + n + 14 = 75 + n by omega]
  show some (pc + 3, L, Value.ref (75 + n) :: st, (hXM σ Lc μ ++ cs) ++ [Sum.inr (a, am_dflt a)]) = some (pc + 3, L, Value.ref (75 + n) :: st, hXM σ Lc μ ++ (cs ++ [Sum.inr (a, am_dflt a)]))
  rw [List.append_assoc]
theorem am_tgtN {a ci y cl : Nat} {fs : List Value} {idx : Nat} {ln0 : Nat} {v : Int} {tg : List (Nat × Nat)} {ps : List Nat} {rest vs : List Value} (hcs : cs.length = n) (htg : tg = [(cl, y)]) (hst : st.drop a = .ref (75 + n) :: rest) (hcat : Nat.ble (am_cats rest) 8 = true) (hvs : .ref (75 + n) :: (st.take a).reverse = vs) : am_tgt (.invokespecial idx, ln0, a, v, tg, ps) st (hXC σ Lc μ (cs ++ [.inr (ci, fs)])) = some (y, vs, rest) := by
  subst hvs
  subst htg
  dsimp only [am_tgt]
  rw [hst]
  dsimp only
  rw [hcat, cond_true, am_getX hcs]
end NW
