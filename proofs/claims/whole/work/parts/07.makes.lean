section AMV
variable {p : Program} {l : Launch} {e : Env} {R : Room} {s : State} {m : MethodId} {args : Array Value} {below : List Frame} {meth : Method} {c : Code} {Q : State → Prop}
variable {own yn : String} {cc : ByteArray} {nL : Nat} {D : va_G} {tc : Nat → Nat} {b N0 : Nat} {sa sv : Nat → Nat} {LL : Nat} {xs : Nat → Int32} {h0l sz0 pc : Nat} {L : am_L} {st : List Value} {h : am_H} {S : am_S} {ln a : Nat} {v : Int} {tg : List (Nat × Nat)} {ps : List Nat}
theorem am_Wq {H : Heap} {locs : List Loc} {cells slots q q' pc : Nat} {ls : Array Slot} {r : List Value} (e1 : q = q') (k : W p l e R s m args below meth c H locs cells slots Q (F0 m pc ls (.ref q :: r))) : W p l e R s m args below meth c H locs cells slots Q (F0 m pc ls (.ref q' :: r)) := e1 ▸ k
theorem am_dflt_map (ad : Nat → Nat) (ci : Nat) : (am_dflt ci).map (am_v ad) = am_dflt ci := by
  unfold am_dflt
  split <;> rfl
def am_new (own : String) (idx ci : Nat) : Prop := ∃ (C : String) (T : u_T) (N : Nat), vwCl[ci]? = some (C, T, N) ∧ Cond.classLink own idx C ∈ am_tbl ∧ Cond.instantiable C N ∈ am_tbl ∧ Cond.initialized C ∈ am_tbl
theorem as_new {idx : Nat} (hC : am_C p s m args meth c own yn cc nL D tc b N0 sa sv LL xs h0l) (hdg : decode cc pc = .ok (.new idx, 3)) (hf : am_new own idx a) (hRc : S.2.2.2.length ≤ h0l + R.cells) (hRs : am_sz S.2.2.2 ≤ sz0 + R.slots) (hs : am_step xs LL (.new idx, 3, a, v, tg, ps) pc L (st) h = some S) (k : am_W p l e R s m args below meth c Q D tc (am_ad b N0 sa) N0 nL h0l sz0 S) : am_W p l e R s m args below meth c Q D tc (am_ad b N0 sa) N0 nL h0l sz0 (pc, L, st, h) := by
  intro H locs ls cells slots hP hz hS hL hc hsl
  obtain ⟨hx, hb, hml, hown, hts, hK, hZ, hH0, hbN, hnm⟩ := hC
  dsimp only at hP hz hL hc hsl ⊢
  obtain rfl := Option.some.inj hs
  dsimp only at hRc hRs
  rw [am_sz_app] at hRs
  rw [List.length_append, List.length_singleton] at hRc
  obtain ⟨C, T, N, e1, e2, e3, e4⟩ := hf
  obtain ⟨d1, d2⟩ := am_cl_df a _ e1
  have hsz : am_sz1 (.inr (a, am_dflt a)) = N := d1
  rw [hsz] at hRs
  have hA : ∀ q, s.heap.size ≤ q → (fun q => N0 ≤ q) q := fun q hq => by show N0 ≤ q; omega
  refine va_new (ci := a) (C := C) (T := T) (N := N) hx hb hts (am_cl_in a _ e1) (am_ty a) (am_cl_ty a _ e1) hown (hts _ e2) (hts _ e3) (hts _ e4) hK hP am_w_D hS hA e1 d2 (by omega) (by omega) hdg (fun q H1 hP1 hD1 hS1 => am_sized fun hz1 => ?_)
  obtain ⟨f1, f2⟩ := am_fresh hD1 hP1 (by omega)
  have k2 := k H1 locs ls (cells + 1) (slots + N) (by
    dsimp only
    rw [am_w_app, am_ad_ge, ← f1]
    show va_P D vwCl (_ ++ [(q, .inr (a, (am_dflt a).map _))]) H1
    rw [am_dflt_map]
    exact hP1) (by dsimp only; rw [List.length_append, List.length_singleton]; omega) hS1 hL (by dsimp only; rw [List.length_append, List.length_singleton]; omega) (by dsimp only; rw [am_sz_app, hsz]; omega)
  exact am_Wq (q := am_ad b N0 sa (h.length + 14)) (by rw [am_ad_ge, ← f1]) k2
theorem am_tcOf {t : Nat} {ty : FieldType} {cA : ClassId} {tys : List (ClassId × FieldType)} (hK : va_K D vwCl (am_tys tc) s) (hK1 : va_K D vwCl (tys ++ [(cA, ty)]) s) (ht : (am_tys tc)[t]? = some (tc t, ty)) (hty : ty = .int ∨ ty = .boolean ∨ ∃ n, ty = .object n) : cA = tc t := by
  have h1 := (hK.2 t _ ht).2
  have h2 := (hK1.2 tys.length (cA, ty) (by rw [List.getElem?_append_right (Nat.le_refl _), Nat.sub_self]; rfl)).2
  rcases hty with rfl | rfl | ⟨n, rfl⟩
  · exact Option.some.inj (h2.symm.trans h1)
  · exact Option.some.inj (h2.symm.trans h1)
  · obtain ⟨_, _, _, _, _, g1⟩ := h1
    obtain ⟨_, _, _, _, _, g2⟩ := h2
    exact Option.some.inj (g2.symm.trans g1)
theorem as_newaI {n : Int32} (hC : am_C p s m args meth c own yn cc nL D tc b N0 sa sv LL xs h0l) (hdg : decode cc pc = .ok (.newarray .int, 2)) (ha : a = 0) (hf : Cond.arrayClass .int ∈ am_tbl) (hRc : S.2.2.2.length ≤ h0l + R.cells) (hRs : am_sz S.2.2.2 ≤ sz0 + R.slots) (hs : am_step xs LL (.newarray .int, 2, a, v, tg, ps) pc L (.int n :: st) h = some S) (k : am_W p l e R s m args below meth c Q D tc (am_ad b N0 sa) N0 nL h0l sz0 S) : am_W p l e R s m args below meth c Q D tc (am_ad b N0 sa) N0 nL h0l sz0 (pc, L, .int n :: st, h) := by
  intro H locs ls cells slots hP hz hS hL hc hsl
  obtain ⟨hx, hb, hml, hown, hts, hK, hZ, hH0, hbN, hnm⟩ := hC
  dsimp only at hP hz hL hc hsl ⊢
  dsimp only [am_step] at hs
  split at hs
  · cases hs
  · rename_i hn
    obtain rfl := Option.some.inj hs
    dsimp only at hRc hRs
    rw [am_sz_app] at hRs
    rw [List.length_append, List.length_singleton] at hRc
    have hRs : am_sz h + n.toNatClampNeg ≤ sz0 + R.slots := hRs
    have hn0 : ¬ n < 0 := fun q => hn (Or.inl q)
    have hn1 : ¬ 1000 < n.toNatClampNeg := fun q => hn (Or.inr q)
    have hA : ∀ q, s.heap.size ≤ q → (fun q => N0 ≤ q) q := fun q hq => by show N0 ≤ q; omega
    subst ha
    refine va_newa (atype := .int) (ty := .int) (a0 := (n.toNatClampNeg, .inl (fun _ => 0))) hx hb (hts _ hf) rfl hK hP am_w_D hS hA (fun cA => rfl) hn0 rfl (by show _ * 4 ≤ _; omega) (by omega) (by omega) hdg (fun q cA H1 hK1 hP1 hD1 hS1 => am_sized fun hz1 => ?_)
    obtain rfl := am_tcOf (t := 0) hK hK1 rfl (Or.inl rfl)
    obtain ⟨f1, f2⟩ := am_fresh hD1 hP1 (by omega)
    have k2 := k H1 locs ls (cells + 1) (slots + n.toNatClampNeg) (by
      dsimp only
      rw [am_w_app, am_ad_ge, ← f1]
      exact hP1) (by dsimp only; rw [List.length_append, List.length_singleton]; omega) hS1 hL (by dsimp only; rw [List.length_append, List.length_singleton]; omega) (by dsimp only; rw [am_sz_app]; show _ = _ + n.toNatClampNeg; omega)
    exact am_Wq (q := am_ad b N0 sa (h.length + 14)) (by rw [am_ad_ge, ← f1]) k2
theorem as_newaZ {n : Int32} (hC : am_C p s m args meth c own yn cc nL D tc b N0 sa sv LL xs h0l) (hdg : decode cc pc = .ok (.newarray .boolean, 2)) (ha : a = 1) (hf : Cond.arrayClass .boolean ∈ am_tbl) (hRc : S.2.2.2.length ≤ h0l + R.cells) (hRs : am_sz S.2.2.2 ≤ sz0 + R.slots) (hs : am_step xs LL (.newarray .boolean, 2, a, v, tg, ps) pc L (.int n :: st) h = some S) (k : am_W p l e R s m args below meth c Q D tc (am_ad b N0 sa) N0 nL h0l sz0 S) : am_W p l e R s m args below meth c Q D tc (am_ad b N0 sa) N0 nL h0l sz0 (pc, L, .int n :: st, h) := by
  intro H locs ls cells slots hP hz hS hL hc hsl
  obtain ⟨hx, hb, hml, hown, hts, hK, hZ, hH0, hbN, hnm⟩ := hC
  dsimp only at hP hz hL hc hsl ⊢
  dsimp only [am_step] at hs
  split at hs
  · cases hs
  · rename_i hn
    obtain rfl := Option.some.inj hs
    dsimp only at hRc hRs
    rw [am_sz_app] at hRs
    rw [List.length_append, List.length_singleton] at hRc
    have hRs : am_sz h + n.toNatClampNeg ≤ sz0 + R.slots := hRs
    have hn0 : ¬ n < 0 := fun q => hn (Or.inl q)
    have hn1 : ¬ 1000 < n.toNatClampNeg := fun q => hn (Or.inr q)
    have hA : ∀ q, s.heap.size ≤ q → (fun q => N0 ≤ q) q := fun q hq => by show N0 ≤ q; omega
    subst ha
    refine va_newa (atype := .boolean) (ty := .boolean) (a0 := (n.toNatClampNeg, .inl (fun _ => 0))) hx hb (hts _ hf) rfl hK hP am_w_D hS hA (fun cA => rfl) hn0 rfl (by show _ * 1 ≤ _; omega) (by omega) (by omega) hdg (fun q cA H1 hK1 hP1 hD1 hS1 => am_sized fun hz1 => ?_)
    obtain rfl := am_tcOf (t := 1) hK hK1 rfl (Or.inr (Or.inl rfl))
    obtain ⟨f1, f2⟩ := am_fresh hD1 hP1 (by omega)
    have k2 := k H1 locs ls (cells + 1) (slots + n.toNatClampNeg) (by
      dsimp only
      rw [am_w_app, am_ad_ge, ← f1]
      exact hP1) (by dsimp only; rw [List.length_append, List.length_singleton]; omega) hS1 hL (by dsimp only; rw [List.length_append, List.length_singleton]; omega) (by dsimp only; rw [am_sz_app]; show _ = _ + n.toNatClampNeg; omega)
    exact am_Wq (q := am_ad b N0 sa (h.length + 14)) (by rw [am_ad_ge, ← f1]) k2
theorem as_anewG {n : Int32} {idx : Nat} (hC : am_C p s m args meth c own yn cc nL D tc b N0 sa sv LL xs h0l) (hdg : decode cc pc = .ok (.anewarray idx, 3)) (ha : a = 2) (hf : Cond.classLink own idx RX2 ∈ am_tbl) (hf2 : Cond.arrayOver (.object RX2) ∈ am_stk) (hRc : S.2.2.2.length ≤ h0l + R.cells) (hRs : am_sz S.2.2.2 ≤ sz0 + R.slots) (hs : am_step xs LL (.anewarray idx, 3, a, v, tg, ps) pc L (.int n :: st) h = some S) (k : am_W p l e R s m args below meth c Q D tc (am_ad b N0 sa) N0 nL h0l sz0 S) : am_W p l e R s m args below meth c Q D tc (am_ad b N0 sa) N0 nL h0l sz0 (pc, L, .int n :: st, h) := by
  intro H locs ls cells slots hP hz hS hL hc hsl
  obtain ⟨hx, hb, hml, hown, hts, hK, hZ, hH0, hbN, hnm⟩ := hC
  dsimp only at hP hz hL hc hsl ⊢
  dsimp only [am_step] at hs
  split at hs
  · cases hs
  · rename_i hn
    obtain rfl := Option.some.inj hs
    dsimp only at hRc hRs
    rw [am_sz_app] at hRs
    rw [List.length_append, List.length_singleton] at hRc
    have hRs : am_sz h + n.toNatClampNeg ≤ sz0 + R.slots := hRs
    have hn0 : ¬ n < 0 := fun q => hn (Or.inl q)
    have hn1 : ¬ 1000 < n.toNatClampNeg := fun q => hn (Or.inr q)
    have hA : ∀ q, s.heap.size ≤ q → (fun q => N0 ≤ q) q := fun q hq => by show N0 ≤ q; omega
    subst ha
    refine va_newq (C := RX2) hx hb hown (hts _ hf) (hZ.2.2.2.2.2 _ hf2) hK hP am_w_D hS hA hn0 rfl (by omega) (by omega) (by omega) hdg (fun q cA H1 hK1 hP1 hD1 hS1 => am_sized fun hz1 => ?_)
    obtain rfl := am_tcOf (t := 2) hK hK1 rfl (Or.inr (Or.inr ⟨_, rfl⟩))
    obtain ⟨f1, f2⟩ := am_fresh hD1 hP1 (by omega)
    have k2 := k H1 locs ls (cells + 1) (slots + n.toNatClampNeg) (by
      dsimp only
      rw [am_w_app, am_ad_ge, ← f1]
      exact hP1) (by dsimp only; rw [List.length_append, List.length_singleton]; omega) hS1 hL (by dsimp only; rw [List.length_append, List.length_singleton]; omega) (by dsimp only; rw [am_sz_app]; show _ = _ + n.toNatClampNeg; omega)
    exact am_Wq (q := am_ad b N0 sa (h.length + 14)) (by rw [am_ad_ge, ← f1]) k2
theorem as_anewS {n : Int32} {idx : Nat} (hC : am_C p s m args meth c own yn cc nL D tc b N0 sa sv LL xs h0l) (hdg : decode cc pc = .ok (.anewarray idx, 3)) (ha : a = 3) (hf : Cond.classLink own idx RX8 ∈ am_tbl) (hf2 : Cond.arrayOver (.object RX8) ∈ am_stk) (hRc : S.2.2.2.length ≤ h0l + R.cells) (hRs : am_sz S.2.2.2 ≤ sz0 + R.slots) (hs : am_step xs LL (.anewarray idx, 3, a, v, tg, ps) pc L (.int n :: st) h = some S) (k : am_W p l e R s m args below meth c Q D tc (am_ad b N0 sa) N0 nL h0l sz0 S) : am_W p l e R s m args below meth c Q D tc (am_ad b N0 sa) N0 nL h0l sz0 (pc, L, .int n :: st, h) := by
  intro H locs ls cells slots hP hz hS hL hc hsl
  obtain ⟨hx, hb, hml, hown, hts, hK, hZ, hH0, hbN, hnm⟩ := hC
  dsimp only at hP hz hL hc hsl ⊢
  dsimp only [am_step] at hs
  split at hs
  · cases hs
  · rename_i hn
    obtain rfl := Option.some.inj hs
    dsimp only at hRc hRs
    rw [am_sz_app] at hRs
    rw [List.length_append, List.length_singleton] at hRc
    have hRs : am_sz h + n.toNatClampNeg ≤ sz0 + R.slots := hRs
    have hn0 : ¬ n < 0 := fun q => hn (Or.inl q)
    have hn1 : ¬ 1000 < n.toNatClampNeg := fun q => hn (Or.inr q)
    have hA : ∀ q, s.heap.size ≤ q → (fun q => N0 ≤ q) q := fun q hq => by show N0 ≤ q; omega
    subst ha
    refine va_newq (C := RX8) hx hb hown (hts _ hf) (hZ.2.2.2.2.2 _ hf2) hK hP am_w_D hS hA hn0 rfl (by omega) (by omega) (by omega) hdg (fun q cA H1 hK1 hP1 hD1 hS1 => am_sized fun hz1 => ?_)
    obtain rfl := am_tcOf (t := 3) hK hK1 rfl (Or.inr (Or.inr ⟨_, rfl⟩))
    obtain ⟨f1, f2⟩ := am_fresh hD1 hP1 (by omega)
    have k2 := k H1 locs ls (cells + 1) (slots + n.toNatClampNeg) (by
      dsimp only
      rw [am_w_app, am_ad_ge, ← f1]
      exact hP1) (by dsimp only; rw [List.length_append, List.length_singleton]; omega) hS1 hL (by dsimp only; rw [List.length_append, List.length_singleton]; omega) (by dsimp only; rw [am_sz_app]; show _ = _ + n.toNatClampNeg; omega)
    exact am_Wq (q := am_ad b N0 sa (h.length + 14)) (by rw [am_ad_ge, ← f1]) k2
def am_ins (own : String) (idx ci r : Nat) : Prop := ∃ (q : vw_C) (nm : String), vwCl[ci]? = some q ∧ Cond.classLink own idx nm ∈ am_tbl ∧ ((r = 0 ∧ (q.1, nm) ∈ am_nc) ∨ (r = 1 ∧ (q.1 = nm ∨ Cond.castable q.1 nm ∈ am_stk)))
theorem as_insN {idx : Nat} (hC : am_C p s m args meth c own yn cc nL D tc b N0 sa sv LL xs h0l) (hdg : decode cc pc = .ok (.instanceof idx, 3))  (hs : am_step xs LL (.instanceof idx, 3, a, v, tg, ps) pc L (.null :: st) h = some S) (k : am_W p l e R s m args below meth c Q D tc (am_ad b N0 sa) N0 nL h0l sz0 S) : am_W p l e R s m args below meth c Q D tc (am_ad b N0 sa) N0 nL h0l sz0 (pc, L, .null :: st, h) := by
  intro H locs ls cells slots hP hz hS hL hc hsl
  obtain ⟨hx, hb, hml, hown, hts, hK, hZ, hH0, hbN, hnm⟩ := hC
  dsimp only at hP hz hL hc hsl ⊢
  obtain rfl := Option.some.inj hs
  exact lv_instN hx hb hdg (k H locs ls cells slots hP hz hS hL hc hsl)
theorem as_ins {idx r : Nat} (hC : am_C p s m args meth c own yn cc nL D tc b N0 sa sv LL xs h0l) (hdg : decode cc pc = .ok (.instanceof idx, 3)) (hf : ∀ q ∈ tg, am_ins own idx q.1 q.2) (hs : am_step xs LL (.instanceof idx, 3, a, v, tg, ps) pc L (.ref r :: st) h = some S) (k : am_W p l e R s m args below meth c Q D tc (am_ad b N0 sa) N0 nL h0l sz0 S) : am_W p l e R s m args below meth c Q D tc (am_ad b N0 sa) N0 nL h0l sz0 (pc, L, .ref r :: st, h) := by
  intro H locs ls cells slots hP hz hS hL hc hsl
  obtain ⟨hx, hb, hml, hown, hts, hK, hZ, hH0, hbN, hnm⟩ := hC
  dsimp only at hP hz hL hc hsl ⊢
  dsimp only [am_step] at hs
  split at hs
  · rename_i ci fs hg
    split at hs
    · rename_i hlk
      obtain rfl := Option.some.inj hs
      obtain ⟨q, nm, e1, e2, e3⟩ := hf (ci, 0) (am_look_mem hlk)
      have hrv := va_recv (q := q) hK hP e1 (am_w_get hg).1
      rcases e3 with ⟨-, e3⟩ | ⟨e3, -⟩
      · exact va_instNo (C := q.1) (nm := nm) hx hb hown (hts _ e2) (hZ.2.2.2.1 _ e3) hrv hdg (k H locs ls cells slots hP hz hS hL hc hsl)
      · cases e3
    · rename_i hlk
      obtain rfl := Option.some.inj hs
      obtain ⟨q, nm, e1, e2, e3⟩ := hf (ci, 1) (am_look_mem hlk)
      have hrv := va_recv (q := q) hK hP e1 (am_w_get hg).1
      rcases e3 with ⟨e3, -⟩ | ⟨-, e3⟩
      · cases e3
      · rcases e3 with e3 | e3
        · exact va_instE (nm := nm) hx hb hown (hts _ e2) (by rw [← e3]; exact hrv) hdg (k H locs ls cells slots hP hz hS hL hc hsl)
        · exact va_instY (C := q.1) (nm := nm) hx hb hown (hts _ e2) (hZ.2.2.2.2.2 _ e3) hrv hdg (k H locs ls cells slots hP hz hS hL hc hsl)
    · cases hs
  · cases hs
theorem as_objI {idx r : Nat} (hC : am_C p s m args meth c own yn cc nL D tc b N0 sa sv LL xs h0l) (hdg : decode cc pc = .ok (.invokespecial idx, 3)) (hf : Cond.methodLink own idx objectInit ∈ am_tbl ∧ Cond.instanceMethod objectInit ∈ am_tbl ∧ Cond.code objectInit ⟨#[0xb1]⟩ 1 none ∈ am_tbl) (hR : 1 ≤ R.frames ∧ 38 ≤ R.locals) (hs : am_step xs LL (.invokespecial idx, 3, a, v, tg, ps) pc L (.ref r :: st) h = some S) (k : am_W p l e R s m args below meth c Q D tc (am_ad b N0 sa) N0 nL h0l sz0 S) : am_W p l e R s m args below meth c Q D tc (am_ad b N0 sa) N0 nL h0l sz0 (pc, L, .ref r :: st, h) := by
  intro H locs ls cells slots hP hz hS hL hc hsl
  obtain ⟨hx, hb, hml, hown, hts, hK, hZ, hH0, hbN, hnm⟩ := hC
  dsimp only at hP hz hL hc hsl ⊢
  dsimp only [am_step] at hs
  cases hst0 : Nat.ble (am_cats st) 8 with
  | false => rw [hst0] at hs; cases hs
  | true =>
  rw [hst0, cond_true] at hs
  have hst : (List.map (fun v => Value.category v) st).sum ≤ 8 := Nat.le_of_ble_eq_true hst0
  obtain rfl := Option.some.inj hs
  exact W.objInit hx hb hown (hts _ hf.1) (hts _ hf.2.1) (hts _ hf.2.2) rfl (hL.1.1.trans hml.symm) rfl hdg hR.1 (by
    have e : (List.map (fun v => Value.category v) (List.map (am_v (am_ad b N0 sa)) st)) = List.map (fun v => Value.category v) st := by
      rw [List.map_map]; exact List.map_congr_left fun w _ => am_v_cat _ w
    show 2 * 0 + (List.map (fun v => Value.category v) (List.map (am_v (am_ad b N0 sa)) st)).sum + 12 ≤ _
    rw [e]
    have := hR.2
    omega) (k H locs ls cells slots hP hz hS hL hc hsl)
theorem as_copy {idx r q : Nat} {n dp sp : Int32} (hC : am_C p s m args meth c own yn cc nL D tc b N0 sa sv LL xs h0l) (hdg : decode cc pc = .ok (.invokestatic idx, 3)) (hv : v = 0) (hf : Cond.methodLink own idx arraycopyName ∈ am_tbl ∧ Cond.native arraycopyName ∈ am_tbl ∧ Cond.static arraycopyName ∈ am_tbl ∧ Cond.initialized "java/lang/System" ∈ am_tbl) (hR : 1 ≤ R.frames ∧ 38 ≤ R.locals) (hs : am_step xs LL (.invokestatic idx, 3, a, v, tg, ps) pc L (.int n :: .int dp :: .ref q :: .int sp :: .ref r :: st) h = some S) (k : am_W p l e R s m args below meth c Q D tc (am_ad b N0 sa) N0 nL h0l sz0 S) : am_W p l e R s m args below meth c Q D tc (am_ad b N0 sa) N0 nL h0l sz0 (pc, L, .int n :: .int dp :: .ref q :: .int sp :: .ref r :: st, h) := by
  intro H locs ls cells slots hP hz hS hL hc hsl
  obtain ⟨hx, hb, hml, hown, hts, hK, hZ, hH0, hbN, hnm⟩ := hC
  dsimp only at hP hz hL hc hsl ⊢
  subst hv
  dsimp only [am_step] at hs
  rw [show decide ((0 : Int) = 1) = false from rfl, cond_false, show decide ((0 : Int) = 2) = false from rfl, cond_false] at hs
  cases hst0 : Nat.ble (am_cats st) 8 with
  | false => rw [hst0] at hs; cases hs
  | true =>
  rw [hst0, cond_true] at hs
  have hst : (List.map (fun v => Value.category v) st).sum ≤ 8 := Nat.le_of_ble_eq_true hst0
  split at hs
  · rename_i n0 f n1 g hg hgq
    split at hs
    · cases hs
    · rename_i hn
      obtain rfl := Option.some.inj hs
      simp only [not_or] at hn
      obtain ⟨i1, i2, i3, i4, i5⟩ := hn
      obtain ⟨g1, h7, -⟩ := am_w_get (tc := tc) (ad := am_ad b N0 sa) hgq
      have hS' : va_S (fun q => N0 ≤ q) H H locs := ⟨Nat.le_refl _, fun _ _ _ => rfl, hS.2.2⟩
      have e : (List.map (fun v => Value.category v) (List.map (am_v (am_ad b N0 sa)) st)) = List.map (fun v => Value.category v) st := by
        rw [List.map_map]; exact List.map_congr_left fun w _ => am_v_cat _ w
      refine va_copyi hx hb (hml.trans hL.1.1.symm) hown (hts _ hf.1) (hts _ hf.2.1) (hts _ hf.2.2.1) (hts _ hf.2.2.2) hK hP am_w_D hS' (r - 14) (q - 14) 0 0 (am_w_get hg).1 g1 (ty := .int) rfl rfl rfl i1 i2 i3 (by omega) (by omega) (fun _ _ => rfl) hR.1 (by
        rw [e]
        have h38 := hR.2
        have : nativeFrameWords "java/lang/System" "arraycopy" 5 + 11 ≤ 30 := by decide +kernel
        omega) hdg (fun H1 locs1 hP1 _ hS1 => am_sized fun hz1 => k H1 locs1 ls cells slots ?_ ?_ (am_St hS hS1) hL ?_ ?_)
      · rw [am_w_put h7]
        exact hP1
      · have := hS1.1
        dsimp only
        rw [am_put_len]
        omega
      · dsimp only; rw [am_put_len]; exact hc
      · dsimp only; rw [am_put_sz hgq (by simp [am_sz1])]; exact hsl
  · cases hs
theorem as_mmax {idx : Nat} {n dp : Int32} (hC : am_C p s m args meth c own yn cc nL D tc b N0 sa sv LL xs h0l) (hdg : decode cc pc = .ok (.invokestatic idx, 3)) (hv : v = 1) (hf : Cond.methodLink own idx Lib.Math.max.name ∈ am_tbl ∧ Cond.static Lib.Math.max.name ∈ am_tbl ∧ Cond.initialized "java/lang/Math" ∈ am_tbl ∧ Cond.code Lib.Math.max.name Lib.Math.max.code 2 (some .int) ∈ am_tbl) (hR : 1 ≤ R.frames ∧ 38 ≤ R.locals) (hRc : S.2.2.2.length ≤ h0l + R.cells) (hRs : am_sz S.2.2.2 ≤ sz0 + R.slots) (hs : am_step xs LL (.invokestatic idx, 3, a, v, tg, ps) pc L (.int n :: .int dp :: st) h = some S) (k : am_W p l e R s m args below meth c Q D tc (am_ad b N0 sa) N0 nL h0l sz0 S) : am_W p l e R s m args below meth c Q D tc (am_ad b N0 sa) N0 nL h0l sz0 (pc, L, .int n :: .int dp :: st, h) := by
  intro H locs ls cells slots hP hz hS hL hc hsl
  obtain ⟨hx, hb, hml, hown, hts, hK, hZ, hH0, hbN, hnm⟩ := hC
  dsimp only at hP hz hL hc hsl ⊢
  subst hv
  dsimp only [am_step] at hs
  rw [show decide ((1 : Int) = 1) = true from rfl, cond_true] at hs
  cases hst0 : Nat.ble (am_cats st) 8 with
  | false => rw [hst0] at hs; cases hs
  | true =>
  rw [hst0, cond_true] at hs
  have hst : (List.map (fun v => Value.category v) st).sum ≤ 8 := Nat.le_of_ble_eq_true hst0
  obtain rfl := Option.some.inj hs
  have e : (List.map (fun v => Value.category v) (List.map (am_v (am_ad b N0 sa)) st)) = List.map (fun v => Value.category v) st := by
    rw [List.map_map]; exact List.map_congr_left fun w _ => am_v_cat _ w
  dsimp only at hRc hRs
  exact va_mmax hx hb (hml.trans hL.1.1.symm) hown (hts _ hf.1) (hts _ hf.2.1) (hts _ hf.2.2.1) (hts _ hf.2.2.2) hR.1 (by
    rw [e]
    have := hR.2
    omega) (by omega) (by omega) hdg (k H locs ls cells slots hP hz hS hL hc hsl)
theorem as_mmin {idx : Nat} {n dp : Int32} (hC : am_C p s m args meth c own yn cc nL D tc b N0 sa sv LL xs h0l) (hdg : decode cc pc = .ok (.invokestatic idx, 3)) (hv : v = 2) (hf : Cond.methodLink own idx Lib.Math.min.name ∈ am_tbl ∧ Cond.static Lib.Math.min.name ∈ am_tbl ∧ Cond.initialized "java/lang/Math" ∈ am_tbl ∧ Cond.code Lib.Math.min.name Lib.Math.min.code 2 (some .int) ∈ am_tbl) (hR : 1 ≤ R.frames ∧ 38 ≤ R.locals) (hRc : S.2.2.2.length ≤ h0l + R.cells) (hRs : am_sz S.2.2.2 ≤ sz0 + R.slots) (hs : am_step xs LL (.invokestatic idx, 3, a, v, tg, ps) pc L (.int n :: .int dp :: st) h = some S) (k : am_W p l e R s m args below meth c Q D tc (am_ad b N0 sa) N0 nL h0l sz0 S) : am_W p l e R s m args below meth c Q D tc (am_ad b N0 sa) N0 nL h0l sz0 (pc, L, .int n :: .int dp :: st, h) := by
  intro H locs ls cells slots hP hz hS hL hc hsl
  obtain ⟨hx, hb, hml, hown, hts, hK, hZ, hH0, hbN, hnm⟩ := hC
  dsimp only at hP hz hL hc hsl ⊢
  subst hv
  dsimp only [am_step] at hs
  rw [show decide ((2 : Int) = 1) = false from rfl, cond_false, show decide ((2 : Int) = 2) = true from rfl, cond_true] at hs
  cases hst0 : Nat.ble (am_cats st) 8 with
  | false => rw [hst0] at hs; cases hs
  | true =>
  rw [hst0, cond_true] at hs
  have hst : (List.map (fun v => Value.category v) st).sum ≤ 8 := Nat.le_of_ble_eq_true hst0
  obtain rfl := Option.some.inj hs
  have e : (List.map (fun v => Value.category v) (List.map (am_v (am_ad b N0 sa)) st)) = List.map (fun v => Value.category v) st := by
    rw [List.map_map]; exact List.map_congr_left fun w _ => am_v_cat _ w
  dsimp only at hRc hRs
  exact va_mmin hx hb (hml.trans hL.1.1.symm) hown (hts _ hf.1) (hts _ hf.2.1) (hts _ hf.2.2.1) (hts _ hf.2.2.2) hR.1 (by
    rw [e]
    have := hR.2
    omega) (by omega) (by omega) hdg (k H locs ls cells slots hP hz hS hL hc hsl)
theorem as_ldcI {idx : Nat} (hC : am_C p s m args meth c own yn cc nL D tc b N0 sa sv LL xs h0l) (hdg : decode cc pc = .ok (.ldc idx, 2)) (htg : tg = []) (hf : Cond.constant own idx (Int32.ofInt v) ∈ am_tbl) (hs : am_step xs LL (.ldc idx, 2, a, v, tg, ps) pc L (st) h = some S) (k : am_W p l e R s m args below meth c Q D tc (am_ad b N0 sa) N0 nL h0l sz0 S) : am_W p l e R s m args below meth c Q D tc (am_ad b N0 sa) N0 nL h0l sz0 (pc, L, st, h) := by
  intro H locs ls cells slots hP hz hS hL hc hsl
  obtain ⟨hx, hb, hml, hown, hts, hK, hZ, hH0, hbN, hnm⟩ := hC
  dsimp only at hP hz hL hc hsl ⊢
  subst htg
  obtain rfl := Option.some.inj hs
  exact lv_ldc hx hb hown (hts _ hf) hdg (k H locs ls cells slots hP hz hS hL hc hsl)
theorem as_ldcS {idx q w : Nat} {tx : String} {tg2 : List (Nat × Nat)} (hC : am_C p s m args meth c own yn cc nL D tc b N0 sa sv LL xs h0l) (hdg : decode cc pc = .ok (.ldc idx, 2)) (htg : tg = (q, w) :: tg2) (ho : own = RX9) (hf : (idx, tx, q) ∈ am_strs) (hq7 : 0 < q ∧ q < 7) (hs : am_step xs LL (.ldc idx, 2, a, v, tg, ps) pc L (st) h = some S) (k : am_W p l e R s m args below meth c Q D tc (am_ad b N0 sa) N0 nL h0l sz0 S) : am_W p l e R s m args below meth c Q D tc (am_ad b N0 sa) N0 nL h0l sz0 (pc, L, st, h) := by
  intro H locs ls cells slots hP hz hS hL hc hsl
  obtain ⟨hx, hb, hml, hown, hts, hK, hZ, hH0, hbN, hnm⟩ := hC
  dsimp only at hP hz hL hc hsl ⊢
  subst htg
  obtain rfl := Option.some.inj hs
  subst ho
  have h1 := hZ.2.1 _ hf
  have k2 := k H locs ls cells slots hP hz hS hL hc hsl
  have hq : am_ad b N0 sa q = sa q := by
    unfold am_ad
    rw [if_neg (by omega), if_pos (by omega)]
  exact va_ldcS (tx := tx) hx hb hown h1 hdg (am_Wq hq k2)
theorem as_ldcw {idx : Nat} (hC : am_C p s m args meth c own yn cc nL D tc b N0 sa sv LL xs h0l) (hdg : decode cc pc = .ok (.ldc_w idx, 3)) (hf : Cond.constant own idx (Int32.ofInt v) ∈ am_tbl) (hs : am_step xs LL (.ldc_w idx, 3, a, v, tg, ps) pc L (st) h = some S) (k : am_W p l e R s m args below meth c Q D tc (am_ad b N0 sa) N0 nL h0l sz0 S) : am_W p l e R s m args below meth c Q D tc (am_ad b N0 sa) N0 nL h0l sz0 (pc, L, st, h) := by
  intro H locs ls cells slots hP hz hS hL hc hsl
  obtain ⟨hx, hb, hml, hown, hts, hK, hZ, hH0, hbN, hnm⟩ := hC
  dsimp only at hP hz hL hc hsl ⊢
  obtain rfl := Option.some.inj hs
  exact lv_ldcw hx hb hown (hts _ hf) hdg (k H locs ls cells slots hP hz hS hL hc hsl)
theorem as_ldc2 {idx : Nat} (hC : am_C p s m args meth c own yn cc nL D tc b N0 sa sv LL xs h0l) (hdg : decode cc pc = .ok (.ldc2_w idx, 3)) (hf : Cond.constantLong own idx (Int64.ofInt v) ∈ am_tbl) (hs : am_step xs LL (.ldc2_w idx, 3, a, v, tg, ps) pc L (st) h = some S) (k : am_W p l e R s m args below meth c Q D tc (am_ad b N0 sa) N0 nL h0l sz0 S) : am_W p l e R s m args below meth c Q D tc (am_ad b N0 sa) N0 nL h0l sz0 (pc, L, st, h) := by
  intro H locs ls cells slots hP hz hS hL hc hsl
  obtain ⟨hx, hb, hml, hown, hts, hK, hZ, hH0, hbN, hnm⟩ := hC
  dsimp only at hP hz hL hc hsl ⊢
  obtain rfl := Option.some.inj hs
  exact lv_ldc2 hx hb hown (hts _ hf) hdg (k H locs ls cells slots hP hz hS hL hc hsl)
theorem as_gets {idx : Nat} (hC : am_C p s m args meth c own yn cc nL D tc b N0 sa sv LL xs h0l) (hdg : decode cc pc = .ok (.getstatic idx, 3)) (hf : (a = 0 ∧ Cond.fieldLink own idx "java/lang/String" "COMPACT_STRINGS" "Z" ∈ am_tbl) ∨ (a = 1 ∧ Cond.fieldLink own idx "jdk/internal/util/Preconditions" "SIOOBE_FORMATTER" "Ljava/util/function/BiFunction;" ∈ am_tbl)) (hs : am_step xs LL (.getstatic idx, 3, a, v, tg, ps) pc L (st) h = some S) (k : am_W p l e R s m args below meth c Q D tc (am_ad b N0 sa) N0 nL h0l sz0 S) : am_W p l e R s m args below meth c Q D tc (am_ad b N0 sa) N0 nL h0l sz0 (pc, L, st, h) := by
  intro H locs ls cells slots hP hz hS hL hc hsl
  obtain ⟨hx, hb, hml, hown, hts, hK, hZ, hH0, hbN, hnm⟩ := hC
  dsimp only at hP hz hL hc hsl ⊢
  dsimp only [am_step] at hs
  rcases hf with ⟨ha, hw⟩ | ⟨ha, hw⟩
  · subst ha
    rw [show Nat.beq 0 0 = true from rfl, cond_true] at hs
    obtain rfl := Option.some.inj hs
    exact va_gets hx hb hZ.2.2.2.2.1.1 hS hown (hts _ hw) (fun _ z => z) hdg (k H locs ls cells slots hP hz hS hL hc hsl)
  · subst ha
    rw [show Nat.beq 1 0 = false from rfl, cond_false] at hs
    obtain rfl := Option.some.inj hs
    have hq : am_fv (sa 13) = am_v (am_ad b N0 sa) (.retAddr 0) := by
      have h13 : am_ad b N0 sa 13 = sa 13 := rfl
      show am_fv (sa 13) = (match am_ad b N0 sa 13 with
        | 0 => Value.null
        | n + 1 => Value.ref n)
      rw [h13]
      cases sa 13 <;> rfl
    refine va_gets hx hb hZ.2.2.2.2.1.2 hS hown (hts _ hw) (fun _ z => z) hdg ?_
    rw [hq]
    exact k H locs ls cells slots hP hz hS hL hc hsl
end AMV
