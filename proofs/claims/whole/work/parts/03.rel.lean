/-! how the pure machine's state stands in the machine's -/
def am_v (ad : Nat → Nat) (v : Value) : Value := match v with
  | .ref i => .ref (ad i)
  | .retAddr _ => (match ad 13 with
    | 0 => .null
    | n + 1 => .ref n)
  | w => w
def am_e (tc ad : Nat → Nat) (x : am_E) : va_E := match x with
  | .inl (t, n, .inl f) => .inl (tc t, n, .inl f)
  | .inl (t, n, .inr f) => .inl (tc t, n, .inr (.inr (.inr (.inr (fun j => (f j).map ad)))))
  | .inr (ci, fs) => .inr (ci, fs.map (am_v ad))
def am_w (tc ad : Nat → Nat) (h : am_H) : va_W := h.mapIdx (fun j x => (ad (j + 14), am_e tc ad x))
/-- where the cells lie -/
def am_ad (b N0 : Nat) (sa : Nat → Nat) (i : Nat) : Nat := if i = 0 then b else if i < 14 then sa i else N0 + (i - 14)
def am_sz1 (x : am_E) : Nat := match x with
  | .inl (_, n, _) => n
  | .inr (_, fs) => fs.length
def am_sz (h : am_H) : Nat := (h.map am_sz1).sum
def am_lv (ad : Nat → Nat) (L : am_L) : List (Nat × Value) := (List.range L.length).filterMap (fun i => (am_loc L i).map (fun v => (i, am_v ad v)))
def am_LR (ad : Nat → Nat) (ls : Array Slot) (nL : Nat) (L : am_L) : Prop := lv_has ls nL (am_lv ad L) ∧ L.length = nL
theorem am_v_cat (ad : Nat → Nat) (v : Value) : (am_v ad v).category = v.category := by
  cases v <;> first | rfl | skip
  unfold am_v
  dsimp only
  split <;> rfl
theorem am_loc_lt {L : am_L} {i : Nat} {v : Value} (h : am_loc L i = some v) : L[i]? = some (some v) := by
  unfold am_loc at h
  split at h
  · rename_i w hw; cases h; exact hw
  · cases h
theorem am_loc_of {L : am_L} {i : Nat} {v : Value} (h : L[i]? = some (some v)) : am_loc L i = some v := by
  unfold am_loc; rw [h]
theorem am_lv_mem {ad : Nat → Nat} {L : am_L} {q : Nat × Value} : q ∈ am_lv ad L ↔ ∃ v, am_loc L q.1 = some v ∧ q.2 = am_v ad v := by
  unfold am_lv
  rw [List.mem_filterMap]
  constructor
  · rintro ⟨i, hi, h⟩
    cases hv : am_loc L i with
    | none => rw [hv] at h; cases h
    | some v => rw [hv] at h; cases h; exact ⟨v, hv, rfl⟩
  · rintro ⟨v, h1, h2⟩
    refine ⟨q.1, List.mem_range.mpr ?_, ?_⟩
    · exact (List.getElem?_eq_some_iff.mp (am_loc_lt h1)).1
    · rw [h1]; obtain ⟨a, b⟩ := q; cases h2; rfl
theorem am_LR.at {ad : Nat → Nat} {ls : Array Slot} {nL i : Nat} {L : am_L} {v : Value} (h : am_LR ad ls nL L) (hv : am_loc L i = some v) : ls[i]? = some (.val (am_v ad v)) :=
  h.1.2.2 (i, am_v ad v) (am_lv_mem.mpr ⟨v, hv, rfl⟩)
theorem am_loc_set {L : am_L} {i j : Nat} {x : Option Value} {w : Value} (h : am_loc (L.set i x) j = some w) : (j = i ∧ x = some w) ∨ (j ≠ i ∧ am_loc L j = some w) := by
  have h1 := am_loc_lt h
  rw [List.getElem?_set] at h1
  by_cases e : i = j
  · subst e
    rw [if_pos rfl] at h1
    split at h1
    · exact Or.inl ⟨rfl, Option.some.inj h1⟩
    · cases h1
  · rw [if_neg e] at h1
    exact Or.inr ⟨fun q => e q.symm, am_loc_of h1⟩
theorem am_loc_sto {L : am_L} {i j : Nat} {v w : Value} (h : am_loc (am_sto L i v) j = some w) : (j = i ∧ w = v) ∨ (j ≠ i ∧ am_loc L j = some w ∧ ¬ (j + 1 = i ∧ w.category = 2)) := by
  cases i with
  | zero =>
    rcases am_loc_set h with ⟨h1, h2⟩ | ⟨h1, h2⟩
    · exact Or.inl ⟨h1, (Option.some.inj h2).symm⟩
    · exact Or.inr ⟨h1, h2, fun q => by omega⟩
  | succ i =>
    unfold am_sto at h
    rcases am_loc_set h with ⟨h1, h2⟩ | ⟨h1, h2⟩
    · exact Or.inl ⟨h1, (Option.some.inj h2).symm⟩
    · right
      cases hl : am_lng (am_loc L i) with
      | true =>
        rw [hl, cond_true] at h2
        rcases am_loc_set h2 with ⟨h3, h4⟩ | ⟨h3, h4⟩
        · cases h4
        · exact ⟨h1, h4, fun q => h3 (by omega)⟩
      | false =>
        rw [hl, cond_false] at h2
        refine ⟨h1, h2, fun q => ?_⟩
        have e : j = i := by omega
        subst e
        rw [h2] at hl
        cases w <;> simp_all [am_lng, Value.category]
theorem am_LR.sto {ad : Nat → Nat} {ls ls' : Array Slot} {nL i : Nat} {L : am_L} {v : Value} (h : am_LR ad ls nL L) (h' : lv_has ls' nL ((i, am_v ad v) :: (am_lv ad L).filter (fun q => !(q.1 == i) && !(q.1 + 1 == i && q.2.category == 2)))) : am_LR ad ls' nL (am_sto L i v) := by
  refine ⟨⟨h'.1, h'.2.1, fun q hq => ?_⟩, ?_⟩
  · obtain ⟨w, h1, h2⟩ := am_lv_mem.mp hq
    refine h'.2.2 q ?_
    obtain ⟨a, b⟩ := q
    have h2 : b = am_v ad w := h2
    subst h2
    rcases am_loc_sto h1 with ⟨e1, e2⟩ | ⟨e1, e2, e3⟩
    · dsimp only at e1; subst e1; subst e2; exact List.mem_cons_self
    · refine List.mem_cons_of_mem _ (List.mem_filter.mpr ⟨am_lv_mem.mpr ⟨w, e2, rfl⟩, ?_⟩)
      dsimp only at e1 e2 e3 ⊢
      rw [am_v_cat]
      simp only [Bool.and_eq_true, Bool.not_eq_true', Bool.and_eq_false_iff, beq_eq_false_iff_ne, ne_eq]
      refine ⟨e1, ?_⟩
      by_cases q : a + 1 = i
      · exact Or.inr fun q2 => e3 ⟨q, q2⟩
      · exact Or.inl q
  · rw [← h.2]
    cases i with
    | zero => exact List.length_set
    | succ i =>
      unfold am_sto
      rw [List.length_set]
      cases am_lng (am_loc L i) <;> simp
theorem am_LR.sto2 {ad : Nat → Nat} {ls ls' : Array Slot} {nL i : Nat} {L : am_L} {v : Value} (h : am_LR ad ls nL L) (h' : lv_has ls' nL ((i, am_v ad v) :: (am_lv ad L).filter (fun q => !(q.1 == i) && (!(q.1 == i + 1) && !(q.1 + 1 == i && q.2.category == 2))))) : am_LR ad ls' nL (am_sto2 L i v) := by
  refine ⟨⟨h'.1, h'.2.1, fun q hq => ?_⟩, ?_⟩
  · obtain ⟨w, h1, h2⟩ := am_lv_mem.mp hq
    refine h'.2.2 q ?_
    obtain ⟨a, b⟩ := q
    have h2 : b = am_v ad w := h2
    subst h2
    rcases am_loc_set h1 with ⟨-, e2⟩ | ⟨e0, h1⟩
    · cases e2
    rcases am_loc_sto h1 with ⟨e1, e2⟩ | ⟨e1, e2, e3⟩
    · dsimp only at e1; subst e1; subst e2; exact List.mem_cons_self
    · refine List.mem_cons_of_mem _ (List.mem_filter.mpr ⟨am_lv_mem.mpr ⟨w, e2, rfl⟩, ?_⟩)
      dsimp only at e0 e1 e2 e3 ⊢
      rw [am_v_cat]
      simp only [Bool.and_eq_true, Bool.not_eq_true', Bool.and_eq_false_iff, beq_eq_false_iff_ne, ne_eq]
      refine ⟨e1, e0, ?_⟩
      by_cases q : a + 1 = i
      · exact Or.inr fun q2 => e3 ⟨q, q2⟩
      · exact Or.inl q
  · rw [← h.2]
    unfold am_sto2
    rw [List.length_set]
    cases i with
    | zero => exact List.length_set
    | succ i =>
      unfold am_sto
      rw [List.length_set]
      cases am_lng (am_loc L i) <;> simp
theorem am_ad_ge {b N0 : Nat} {sa : Nat → Nat} (j : Nat) : am_ad b N0 sa (j + 14) = N0 + j := by
  unfold am_ad
  rw [if_neg (by omega), if_neg (by omega)]
  omega
theorem am_w_get {tc ad : Nat → Nat} {h : am_H} {r : Nat} {x : am_E} (hg : am_get h r = some x) : (am_w tc ad h)[r - 14]? = some (ad r, am_e tc ad x) ∧ 14 ≤ r ∧ r - 14 < h.length := by
  unfold am_get at hg
  cases hb : Nat.blt r 14 with
  | true => rw [hb] at hg; cases hg
  | false =>
    rw [hb, cond_false] at hg
    have h7 : 14 ≤ r := by
      rcases Nat.lt_or_ge r 14 with q | q
      · have := Nat.blt_eq.mpr q; rw [hb] at this; cases this
      · exact q
    refine ⟨?_, h7, (List.getElem?_eq_some_iff.mp hg).1⟩
    unfold am_w
    rw [List.getElem?_mapIdx, hg, show r - 14 + 14 = r by omega]
    rfl
theorem am_w_len {tc ad : Nat → Nat} {h : am_H} : (am_w tc ad h).length = h.length := by simp [am_w]
theorem am_w_put {tc ad : Nat → Nat} {h : am_H} {r : Nat} {x : am_E} (h7 : 14 ≤ r) : am_w tc ad (am_put h r x) = (am_w tc ad h).set (r - 14) (ad r, am_e tc ad x) := by
  unfold am_w am_put
  refine List.ext_getElem? fun j => ?_
  rw [List.getElem?_mapIdx, List.getElem?_set, List.getElem?_set, List.getElem?_mapIdx, List.length_mapIdx]
  by_cases e : r - 14 = j
  · subst e
    rw [if_pos rfl, if_pos rfl]
    split
    · rw [show r - 14 + 14 = r by omega]; rfl
    · rfl
  · rw [if_neg e, if_neg e]
theorem am_w_app {tc ad : Nat → Nat} {h : am_H} {x : am_E} : am_w tc ad (h ++ [x]) = am_w tc ad h ++ [(ad (h.length + 14), am_e tc ad x)] := by
  unfold am_w
  rw [List.mapIdx_append]
  simp
theorem am_w_at {tc ad : Nat → Nat} {h : am_H} {k : Nat} {q : Nat × va_E} (hq : (am_w tc ad h)[k]? = some q) : k < h.length ∧ q.1 = ad (k + 14) := by
  unfold am_w at hq
  rw [List.getElem?_mapIdx] at hq
  cases hx : h[k]? with
  | none => rw [hx] at hq; cases hq
  | some x => rw [hx] at hq; cases hq; exact ⟨(List.getElem?_eq_some_iff.mp hx).1, rfl⟩
theorem am_w_D {tc : Nat → Nat} {b N0 : Nat} {sa : Nat → Nat} {h : am_H} : va_D (fun q => N0 ≤ q) (am_w tc (am_ad b N0 sa) h) := by
  refine ⟨fun i j x y hi hj hxy => ?_, fun k q hk => ?_⟩
  · have h1 := (am_w_at hi).2
    have h2 := (am_w_at hj).2
    rw [am_ad_ge] at h1 h2
    omega
  · have h1 := (am_w_at hk).2
    rw [am_ad_ge] at h1
    show N0 ≤ q.1
    omega
theorem am_put_len {h : am_H} {r : Nat} {x : am_E} : (am_put h r x).length = h.length := by simp [am_put]
theorem am_put_sz {h : am_H} {r : Nat} {x y : am_E} (hg : am_get h r = some y) (he : am_sz1 x = am_sz1 y) : am_sz (am_put h r x) = am_sz h := by
  obtain ⟨-, h7, hl⟩ := am_w_get (tc := id) (ad := id) hg
  have hy : h[r - 14]? = some y := by
    unfold am_get at hg
    have hb : Nat.blt r 14 = false := by
      cases hb : Nat.blt r 14 with
      | false => rfl
      | true => have := Nat.blt_eq.mp hb; omega
    rwa [hb, cond_false] at hg
  unfold am_sz am_put
  have e : (h.set (r - 14) x).map am_sz1 = h.map am_sz1 := by
    refine List.ext_getElem? fun j => ?_
    rw [List.getElem?_map, List.getElem?_set, List.getElem?_map]
    by_cases q : r - 14 = j
    · subst q
      rw [if_pos rfl, if_pos hl, hy]
      simp [he]
    · rw [if_neg q]
  rw [e]
theorem am_sz_app {h : am_H} {x : am_E} : am_sz (h ++ [x]) = am_sz h + am_sz1 x := by
  unfold am_sz
  simp
