/-! the machine's rows under the pure machine's steps -/
def am_ty (ci : Nat) : Nat → FieldType := match ci with
  | 0 => tyX0
  | 1 => tyX1
  | 2 => tyX2
  | 3 => tyX3
  | 4 => tyX4
  | 5 => tyX5
  | 6 => tyX6
  | 7 => tyX7
  | 8 => tyX8
  | 9 => tyX9
  | 10 => tyX10
  | 11 => tyX11
  | _ => tyX12
def am_tys (tc : Nat → Nat) : List (ClassId × FieldType) := [(tc 0, .int), (tc 1, .boolean), (tc 2, .object RX2), (tc 3, .object RX8)]

theorem am_inX0 : ∀ w ∈ wsX00, w ∈ am_tbl := by decide +kernel
theorem am_inX1 : ∀ w ∈ wsX10, w ∈ am_tbl := by decide +kernel
theorem am_inX2 : ∀ w ∈ wsX20, w ∈ am_tbl := by decide +kernel
theorem am_inX3 : ∀ w ∈ wsX30, w ∈ am_tbl := by decide +kernel
theorem am_inX4 : ∀ w ∈ wsX40, w ∈ am_tbl := by decide +kernel
theorem am_inX5 : ∀ w ∈ wsX50, w ∈ am_tbl := by decide +kernel
theorem am_inX6 : ∀ w ∈ wsX60, w ∈ am_tbl := by decide +kernel
theorem am_inX7 : ∀ w ∈ wsX70, w ∈ am_tbl := by decide +kernel
theorem am_inX8 : ∀ w ∈ wsX80, w ∈ am_tbl := by decide +kernel
theorem am_inX9 : ∀ w ∈ wsX90, w ∈ am_tbl := by decide +kernel
theorem am_inX10 : ∀ w ∈ wsX100, w ∈ am_tbl := by decide +kernel
theorem am_inX11 : ∀ w ∈ wsX110, w ∈ am_tbl := by decide +kernel
theorem am_inX12 : ∀ w ∈ wsX120, w ∈ am_tbl := by decide +kernel
theorem am_cl_in : ∀ (ci : Nat) (q : vw_C), vwCl[ci]? = some q → ∀ w ∈ u_ws q.1 q.2.1 q.2.2, w ∈ am_tbl := by
  intro ci q h
  match ci, h with
  | 0, h => cases h; exact am_inX0
  | 1, h => cases h; exact am_inX1
  | 2, h => cases h; exact am_inX2
  | 3, h => cases h; exact am_inX3
  | 4, h => cases h; exact am_inX4
  | 5, h => cases h; exact am_inX5
  | 6, h => cases h; exact am_inX6
  | 7, h => cases h; exact am_inX7
  | 8, h => cases h; exact am_inX8
  | 9, h => cases h; exact am_inX9
  | 10, h => cases h; exact am_inX10
  | 11, h => cases h; exact am_inX11
  | 12, h => cases h; exact am_inX12
  | n + 13, h => simp [vwCl] at h
theorem am_cl_ty : ∀ (ci : Nat) (q : vw_C), vwCl[ci]? = some q → ∀ k, k < q.2.2 → parseFieldDescriptor (q.2.1 k).2.2.1 = some (am_ty ci k) := by
  intro ci q h
  match ci, h with
  | 0, h => cases h; exact tyX0_ok
  | 1, h => cases h; exact tyX1_ok
  | 2, h => cases h; exact tyX2_ok
  | 3, h => cases h; exact tyX3_ok
  | 4, h => cases h; exact tyX4_ok
  | 5, h => cases h; exact tyX5_ok
  | 6, h => cases h; exact tyX6_ok
  | 7, h => cases h; exact tyX7_ok
  | 8, h => cases h; exact tyX8_ok
  | 9, h => cases h; exact tyX9_ok
  | 10, h => cases h; exact tyX10_ok
  | 11, h => cases h; exact tyX11_ok
  | 12, h => cases h; exact tyX12_ok
  | n + 13, h => simp [vwCl] at h
theorem am_cl_nm : ∀ (ci : Nat) (q : vw_C), vwCl[ci]? = some q → ∀ a, a < q.2.2 → ∀ b, b < q.2.2 → a ≠ b → (q.2.1 a).2.1 ≠ (q.2.1 b).2.1 := by
  intro ci q h
  match ci, h with
  | 0, h => cases h; exact nmX0
  | 1, h => cases h; exact nmX1
  | 2, h => cases h; exact nmX2
  | 3, h => cases h; exact nmX3
  | 4, h => cases h; exact nmX4
  | 5, h => cases h; exact nmX5
  | 6, h => cases h; exact nmX6
  | 7, h => cases h; exact nmX7
  | 8, h => cases h; exact nmX8
  | 9, h => cases h; exact nmX9
  | 10, h => cases h; exact nmX10
  | 11, h => cases h; exact nmX11
  | 12, h => cases h; exact nmX12
  | n + 13, h => simp [vwCl] at h
theorem am_cl_df : ∀ (ci : Nat) (q : vw_C), vwCl[ci]? = some q → (am_dflt ci).length = q.2.2 ∧ ∀ j, j < q.2.2 → defaultValue (am_ty ci j) = vp_V (am_dflt ci) j := by
  intro ci q h
  match ci, h with
  | 0, h => cases h; exact ⟨rfl, by decide +kernel⟩
  | 1, h => cases h; exact ⟨rfl, by decide +kernel⟩
  | 2, h => cases h; exact ⟨rfl, by decide +kernel⟩
  | 3, h => cases h; exact ⟨rfl, by decide +kernel⟩
  | 4, h => cases h; exact ⟨rfl, by decide +kernel⟩
  | 5, h => cases h; exact ⟨rfl, by decide +kernel⟩
  | 6, h => cases h; exact ⟨rfl, by decide +kernel⟩
  | 7, h => cases h; exact ⟨rfl, by decide +kernel⟩
  | 8, h => cases h; exact ⟨rfl, by decide +kernel⟩
  | 9, h => cases h; exact ⟨rfl, by decide +kernel⟩
  | 10, h => cases h; exact ⟨rfl, by decide +kernel⟩
  | 11, h => cases h; exact ⟨rfl, by decide +kernel⟩
  | 12, h => cases h; exact ⟨rfl, by decide +kernel⟩
  | n + 13, h => simp [vwCl] at h
/-- the String constants: place in the pool, text, id -/
def am_strs : List (Nat × String × Nat) := [(19, "x=y/7", 1), (21, "x=y.2", 2), (23, "x.2=y", 3), (25, "x=y:2(z)", 4), (27, "x=!7", 5), (29, "x=y", 6)]
/-- pairs of classes of which an object of the first is none of the second -/
def am_nc : List (String × String) := [(RX1, RX5), (RX6, RX5), (RX10, RX5), (RX0, RX5), (RX2, RX5), (RX6, RX1), (RX10, RX1), (RX0, RX1), (RX5, RX1), (RX2, RX1), (RX1, RX0), (RX6, RX0), (RX10, RX0), (RX5, RX0), (RX2, RX0), (RX1, RX10), (RX6, RX10), (RX0, RX10), (RX5, RX10), (RX2, RX10), (RX1, RX6), (RX5, RX6), (RX2, RX6)]


/-- a reference or null, told by a number -/
def am_fv (n : Nat) : Value := match n with
  | 0 => .null
  | n + 1 => .ref n
def am_Z (b LL : Nat) (xs : Nat → Int32) (sa sv : Nat → Nat) (A : Nat → Prop) (U : State) (H : Heap) : Prop := va_X b LL xs U H ∧ (∀ q ∈ am_strs, vk_R RX9 q.1 q.2.1 (sa q.2.2) U) ∧ vk_S 6 am_len am_byt (fun i => sa (i + 1)) (fun i => sa (i + 7)) A U H ∧ (∀ q ∈ am_nc, va_Nc q.1 q.2 U) ∧ (va_Z "java/lang/String" "COMPACT_STRINGS" "Z" (.int 1) A U H ∧ va_Z "jdk/internal/util/Preconditions" "SIOOBE_FORMATTER" "Ljava/util/function/BiFunction;" (am_fv (sa 13)) A U H) ∧ ∀ w ∈ am_stk, va_Nw w U
def am_C (p : Program) (s : State) (m : MethodId) (args : Array Value) (meth : Method) (c : Code) (own yn : String) (cc : ByteArray) (nL : Nat) (D : va_G) (tc : Nat → Nat) (b N0 : Nat) (sa sv : Nat → Nat) (LL : Nat) (xs : Nat → Int32) (h0l : Nat) : Prop :=
  p.tables.exec = Jvm.exec ∧ c.code = cc ∧ c.maxLocals = nL ∧ s.vm.findClass own = some m.cls ∧ (∀ w ∈ am_tbl, w.before args s = true) ∧ va_K D vwCl (am_tys tc) s ∧ am_Z b LL xs sa sv (fun q => N0 ≤ q) s s.heap ∧ s.heap.size = N0 + h0l ∧ b < N0 ∧ (yn = "<init>" → meth.name = "<init>")
def am_W (p : Program) (l : Launch) (e : Env) (R : Room) (s : State) (m : MethodId) (args : Array Value) (below : List Frame) (meth : Method) (c : Code) (Q : State → Prop) (D : va_G) (tc ad : Nat → Nat) (N0 nL h0l sz0 : Nat) (S : am_S) : Prop :=
  ∀ (H : Heap) (locs : List Loc) (ls : Array Slot) (cells slots : Nat), va_P D vwCl (am_w tc ad S.2.2.2) H → H.size = N0 + S.2.2.2.length → va_S (fun q => N0 ≤ q) s.heap H locs → am_LR ad ls nL S.2.1 → h0l + cells = S.2.2.2.length → sz0 + slots = am_sz S.2.2.2 →
    W p l e R s m args below meth c H locs cells slots Q (F0 m S.1 ls (S.2.2.1.map (am_v ad)))
theorem am_St {A : Nat → Prop} {H0 H H1 : Heap} {locs locs1 : List Loc} (h : va_S A H0 H locs) (h1 : va_S A H H1 locs1) : va_S A H0 H1 locs1 :=
  ⟨Nat.le_trans h.1 h1.1, fun q a b => (h1.2.1 q (Nat.lt_of_lt_of_le a h.1) b).trans (h.2.1 q a b), h1.2.2⟩
theorem am_fresh {tc : Nat → Nat} {b N0 q : Nat} {sa : Nat → Nat} {h : am_H} {x : va_E} {D : va_G} {H1 : Heap} (hD : va_D (fun q => N0 ≤ q) (am_w tc (am_ad b N0 sa) h ++ [(q, x)])) (hP : va_P D vwCl (am_w tc (am_ad b N0 sa) h ++ [(q, x)]) H1) (hz : H1.size ≤ N0 + h.length + 1) : q = N0 + h.length ∧ H1.size = N0 + h.length + 1 := by
  have hl : (am_w tc (am_ad b N0 sa) h ++ [(q, x)])[h.length]? = some (q, x) := by
    rw [List.getElem?_append_right (by rw [am_w_len]; exact Nat.le_refl _), am_w_len, Nat.sub_self]
    rfl
  have h1 := hD.2 _ _ hl
  have h2 := (hP _ _ hl).lt
  dsimp only at h1 h2
  have h3 : N0 + h.length ≤ q := by
    refine Nat.le_of_not_lt fun hq => ?_
    have hj : q - N0 < h.length := by omega
    have hx : ∃ y, (am_w tc (am_ad b N0 sa) h ++ [(q, x)])[q - N0]? = some (am_ad b N0 sa (q - N0 + 14), y) := by
      rw [List.getElem?_append_left (by rw [am_w_len]; exact hj)]
      unfold am_w
      rw [List.getElem?_mapIdx, List.getElem?_eq_getElem hj]
      exact ⟨_, rfl⟩
    obtain ⟨y, hy⟩ := hx
    have := hD.1 _ _ _ _ hy hl (by rw [am_ad_ge]; show N0 + (q - N0) = q; omega)
    omega
  omega
section AMS
variable {p : Program} {l : Launch} {e : Env} {R : Room} {s : State} {m : MethodId} {args : Array Value} {below : List Frame} {meth : Method} {c : Code} {Q : State → Prop}
variable {own yn : String} {cc : ByteArray} {nL : Nat} {D : va_G} {tc : Nat → Nat} {b N0 : Nat} {sa sv : Nat → Nat} {LL : Nat} {xs : Nat → Int32} {h0l sz0 pc : Nat} {L : am_L} {st : List Value} {h : am_H} {S : am_S} {ln a : Nat} {v : Int} {tg : List (Nat × Nat)} {ps : List Nat}
theorem am_sized {H : Heap} {locs : List Loc} {cells slots : Nat} {g : JFrame} (k : H.size ≤ s.heap.size + cells → W p l e R s m args below meth c H locs cells slots Q g) : W p l e R s m args below meth c H locs cells slots Q g := by
  intro T hT X
  have hz := X.same.2.2.1
  exact k (by rw [← hT]; exact hz) T hT X

theorem as_iconst {n : Int} (hC : am_C p s m args meth c own yn cc nL D tc b N0 sa sv LL xs h0l) (hdg : decode cc pc = .ok (.iconst n, 1))  (hs : am_step xs LL (.iconst n, 1, a, v, tg, ps) pc L (st) h = some S) (k : am_W p l e R s m args below meth c Q D tc (am_ad b N0 sa) N0 nL h0l sz0 S) : am_W p l e R s m args below meth c Q D tc (am_ad b N0 sa) N0 nL h0l sz0 (pc, L, st, h) := by
  intro H locs ls cells slots hP hz hS hL hc hsl
  obtain ⟨hx, hb, hml, hown, hts, hK, hZ, hH0, hbN, hnm⟩ := hC
  dsimp only at hP hz hL hc hsl ⊢
  obtain rfl := Option.some.inj hs
  exact lv_iconst hx hb hdg rfl (k H locs ls cells slots hP hz hS hL hc hsl)
theorem as_bipush {n : Int} (hC : am_C p s m args meth c own yn cc nL D tc b N0 sa sv LL xs h0l) (hdg : decode cc pc = .ok (.bipush n, 2))  (hs : am_step xs LL (.bipush n, 2, a, v, tg, ps) pc L (st) h = some S) (k : am_W p l e R s m args below meth c Q D tc (am_ad b N0 sa) N0 nL h0l sz0 S) : am_W p l e R s m args below meth c Q D tc (am_ad b N0 sa) N0 nL h0l sz0 (pc, L, st, h) := by
  intro H locs ls cells slots hP hz hS hL hc hsl
  obtain ⟨hx, hb, hml, hown, hts, hK, hZ, hH0, hbN, hnm⟩ := hC
  dsimp only at hP hz hL hc hsl ⊢
  obtain rfl := Option.some.inj hs
  exact lv_bipush hx hb hdg rfl (k H locs ls cells slots hP hz hS hL hc hsl)
theorem as_sipush {n : Int} (hC : am_C p s m args meth c own yn cc nL D tc b N0 sa sv LL xs h0l) (hdg : decode cc pc = .ok (.sipush n, 3))  (hs : am_step xs LL (.sipush n, 3, a, v, tg, ps) pc L (st) h = some S) (k : am_W p l e R s m args below meth c Q D tc (am_ad b N0 sa) N0 nL h0l sz0 S) : am_W p l e R s m args below meth c Q D tc (am_ad b N0 sa) N0 nL h0l sz0 (pc, L, st, h) := by
  intro H locs ls cells slots hP hz hS hL hc hsl
  obtain ⟨hx, hb, hml, hown, hts, hK, hZ, hH0, hbN, hnm⟩ := hC
  dsimp only at hP hz hL hc hsl ⊢
  obtain rfl := Option.some.inj hs
  exact lv_sipush hx hb hdg rfl (k H locs ls cells slots hP hz hS hL hc hsl)
theorem as_lconst {n : Fin 2} (hC : am_C p s m args meth c own yn cc nL D tc b N0 sa sv LL xs h0l) (hdg : decode cc pc = .ok (.lconst n, 1))  (hs : am_step xs LL (.lconst n, 1, a, v, tg, ps) pc L (st) h = some S) (k : am_W p l e R s m args below meth c Q D tc (am_ad b N0 sa) N0 nL h0l sz0 S) : am_W p l e R s m args below meth c Q D tc (am_ad b N0 sa) N0 nL h0l sz0 (pc, L, st, h) := by
  intro H locs ls cells slots hP hz hS hL hc hsl
  obtain ⟨hx, hb, hml, hown, hts, hK, hZ, hH0, hbN, hnm⟩ := hC
  dsimp only at hP hz hL hc hsl ⊢
  obtain rfl := Option.some.inj hs
  exact lv_lconst hx hb hdg rfl (k H locs ls cells slots hP hz hS hL hc hsl)
theorem as_null  (hC : am_C p s m args meth c own yn cc nL D tc b N0 sa sv LL xs h0l) (hdg : decode cc pc = .ok (.aconst_null, 1))  (hs : am_step xs LL (.aconst_null, 1, a, v, tg, ps) pc L (st) h = some S) (k : am_W p l e R s m args below meth c Q D tc (am_ad b N0 sa) N0 nL h0l sz0 S) : am_W p l e R s m args below meth c Q D tc (am_ad b N0 sa) N0 nL h0l sz0 (pc, L, st, h) := by
  intro H locs ls cells slots hP hz hS hL hc hsl
  obtain ⟨hx, hb, hml, hown, hts, hK, hZ, hH0, hbN, hnm⟩ := hC
  dsimp only at hP hz hL hc hsl ⊢
  obtain rfl := Option.some.inj hs
  exact lv_null hx hb hdg (k H locs ls cells slots hP hz hS hL hc hsl)
theorem as_iload_n {i : Fin 4} (hC : am_C p s m args meth c own yn cc nL D tc b N0 sa sv LL xs h0l) (hdg : decode cc pc = .ok (.iload_n i, 1))  (hs : am_step xs LL (.iload_n i, 1, a, v, tg, ps) pc L (st) h = some S) (k : am_W p l e R s m args below meth c Q D tc (am_ad b N0 sa) N0 nL h0l sz0 S) : am_W p l e R s m args below meth c Q D tc (am_ad b N0 sa) N0 nL h0l sz0 (pc, L, st, h) := by
  intro H locs ls cells slots hP hz hS hL hc hsl
  obtain ⟨hx, hb, hml, hown, hts, hK, hZ, hH0, hbN, hnm⟩ := hC
  dsimp only at hP hz hL hc hsl ⊢
  dsimp only [am_step] at hs
  split at hs
  · rename_i x hv
    obtain rfl := Option.some.inj hs
    exact lv_iload_n hx hb hdg rfl (hL.at hv) (k H locs ls cells slots hP hz hS hL hc hsl)
  · cases hs
theorem as_iload {i : Nat} (hC : am_C p s m args meth c own yn cc nL D tc b N0 sa sv LL xs h0l) (hdg : decode cc pc = .ok (.iload i, 2))  (hs : am_step xs LL (.iload i, 2, a, v, tg, ps) pc L (st) h = some S) (k : am_W p l e R s m args below meth c Q D tc (am_ad b N0 sa) N0 nL h0l sz0 S) : am_W p l e R s m args below meth c Q D tc (am_ad b N0 sa) N0 nL h0l sz0 (pc, L, st, h) := by
  intro H locs ls cells slots hP hz hS hL hc hsl
  obtain ⟨hx, hb, hml, hown, hts, hK, hZ, hH0, hbN, hnm⟩ := hC
  dsimp only at hP hz hL hc hsl ⊢
  dsimp only [am_step] at hs
  split at hs
  · rename_i x hv
    obtain rfl := Option.some.inj hs
    exact lv_iload hx hb hdg (hL.at hv) (k H locs ls cells slots hP hz hS hL hc hsl)
  · cases hs
theorem as_lload_n {i : Fin 4} (hC : am_C p s m args meth c own yn cc nL D tc b N0 sa sv LL xs h0l) (hdg : decode cc pc = .ok (.lload_n i, 1))  (hs : am_step xs LL (.lload_n i, 1, a, v, tg, ps) pc L (st) h = some S) (k : am_W p l e R s m args below meth c Q D tc (am_ad b N0 sa) N0 nL h0l sz0 S) : am_W p l e R s m args below meth c Q D tc (am_ad b N0 sa) N0 nL h0l sz0 (pc, L, st, h) := by
  intro H locs ls cells slots hP hz hS hL hc hsl
  obtain ⟨hx, hb, hml, hown, hts, hK, hZ, hH0, hbN, hnm⟩ := hC
  dsimp only at hP hz hL hc hsl ⊢
  dsimp only [am_step] at hs
  split at hs
  · rename_i x hv
    obtain rfl := Option.some.inj hs
    exact lv_lload_n hx hb hdg rfl (hL.at hv) (k H locs ls cells slots hP hz hS hL hc hsl)
  · cases hs
theorem as_lload {i : Nat} (hC : am_C p s m args meth c own yn cc nL D tc b N0 sa sv LL xs h0l) (hdg : decode cc pc = .ok (.lload i, 2))  (hs : am_step xs LL (.lload i, 2, a, v, tg, ps) pc L (st) h = some S) (k : am_W p l e R s m args below meth c Q D tc (am_ad b N0 sa) N0 nL h0l sz0 S) : am_W p l e R s m args below meth c Q D tc (am_ad b N0 sa) N0 nL h0l sz0 (pc, L, st, h) := by
  intro H locs ls cells slots hP hz hS hL hc hsl
  obtain ⟨hx, hb, hml, hown, hts, hK, hZ, hH0, hbN, hnm⟩ := hC
  dsimp only at hP hz hL hc hsl ⊢
  dsimp only [am_step] at hs
  split at hs
  · rename_i x hv
    obtain rfl := Option.some.inj hs
    exact lv_lload hx hb hdg (hL.at hv) (k H locs ls cells slots hP hz hS hL hc hsl)
  · cases hs
theorem as_aload_n {i : Fin 4} (hC : am_C p s m args meth c own yn cc nL D tc b N0 sa sv LL xs h0l) (hdg : decode cc pc = .ok (.aload_n i, 1))  (hs : am_step xs LL (.aload_n i, 1, a, v, tg, ps) pc L (st) h = some S) (k : am_W p l e R s m args below meth c Q D tc (am_ad b N0 sa) N0 nL h0l sz0 S) : am_W p l e R s m args below meth c Q D tc (am_ad b N0 sa) N0 nL h0l sz0 (pc, L, st, h) := by
  intro H locs ls cells slots hP hz hS hL hc hsl
  obtain ⟨hx, hb, hml, hown, hts, hK, hZ, hH0, hbN, hnm⟩ := hC
  dsimp only at hP hz hL hc hsl ⊢
  dsimp only [am_step] at hs
  split at hs
  · rename_i x hv
    obtain rfl := Option.some.inj hs
    exact lv_aload_n hx hb hdg rfl (hL.at hv) (k H locs ls cells slots hP hz hS hL hc hsl)
  · rename_i hv
    obtain rfl := Option.some.inj hs
    exact lv_aload_nN hx hb hdg rfl (hL.at hv) (k H locs ls cells slots hP hz hS hL hc hsl)
  · cases hs
theorem as_aload {i : Nat} (hC : am_C p s m args meth c own yn cc nL D tc b N0 sa sv LL xs h0l) (hdg : decode cc pc = .ok (.aload i, 2))  (hs : am_step xs LL (.aload i, 2, a, v, tg, ps) pc L (st) h = some S) (k : am_W p l e R s m args below meth c Q D tc (am_ad b N0 sa) N0 nL h0l sz0 S) : am_W p l e R s m args below meth c Q D tc (am_ad b N0 sa) N0 nL h0l sz0 (pc, L, st, h) := by
  intro H locs ls cells slots hP hz hS hL hc hsl
  obtain ⟨hx, hb, hml, hown, hts, hK, hZ, hH0, hbN, hnm⟩ := hC
  dsimp only at hP hz hL hc hsl ⊢
  dsimp only [am_step] at hs
  split at hs
  · rename_i x hv
    obtain rfl := Option.some.inj hs
    exact lv_aload hx hb hdg (hL.at hv) (k H locs ls cells slots hP hz hS hL hc hsl)
  · rename_i hv
    obtain rfl := Option.some.inj hs
    exact lv_aloadN hx hb hdg (hL.at hv) (k H locs ls cells slots hP hz hS hL hc hsl)
  · cases hs
theorem as_istore_n {i : Fin 4} {x : Int32} (hC : am_C p s m args meth c own yn cc nL D tc b N0 sa sv LL xs h0l) (hdg : decode cc pc = .ok (.istore_n i, 1)) (hi : (i : Nat) < nL) (hs : am_step xs LL (.istore_n i, 1, a, v, tg, ps) pc L (.int x :: st) h = some S) (k : am_W p l e R s m args below meth c Q D tc (am_ad b N0 sa) N0 nL h0l sz0 S) : am_W p l e R s m args below meth c Q D tc (am_ad b N0 sa) N0 nL h0l sz0 (pc, L, .int x :: st, h) := by
  intro H locs ls cells slots hP hz hS hL hc hsl
  obtain ⟨hx, hb, hml, hown, hts, hK, hZ, hH0, hbN, hnm⟩ := hC
  dsimp only at hP hz hL hc hsl ⊢
  obtain rfl := Option.some.inj hs
  exact lv_istore_n (x := x) hx hb hdg rfl hL.1 hi rfl (fun ls' hl' => k H locs ls' cells slots hP hz hS (hL.sto (v := .int x) hl') hc hsl)
theorem as_istore {i : Nat} {x : Int32} (hC : am_C p s m args meth c own yn cc nL D tc b N0 sa sv LL xs h0l) (hdg : decode cc pc = .ok (.istore i, 2)) (hi : (i : Nat) < nL) (hs : am_step xs LL (.istore i, 2, a, v, tg, ps) pc L (.int x :: st) h = some S) (k : am_W p l e R s m args below meth c Q D tc (am_ad b N0 sa) N0 nL h0l sz0 S) : am_W p l e R s m args below meth c Q D tc (am_ad b N0 sa) N0 nL h0l sz0 (pc, L, .int x :: st, h) := by
  intro H locs ls cells slots hP hz hS hL hc hsl
  obtain ⟨hx, hb, hml, hown, hts, hK, hZ, hH0, hbN, hnm⟩ := hC
  dsimp only at hP hz hL hc hsl ⊢
  obtain rfl := Option.some.inj hs
  exact lv_istore (x := x) hx hb hdg hL.1 hi rfl (fun ls' hl' => k H locs ls' cells slots hP hz hS (hL.sto (v := .int x) hl') hc hsl)
theorem as_astore_n {i : Fin 4} {x : Nat} (hC : am_C p s m args meth c own yn cc nL D tc b N0 sa sv LL xs h0l) (hdg : decode cc pc = .ok (.astore_n i, 1)) (hi : (i : Nat) < nL) (hs : am_step xs LL (.astore_n i, 1, a, v, tg, ps) pc L (.ref x :: st) h = some S) (k : am_W p l e R s m args below meth c Q D tc (am_ad b N0 sa) N0 nL h0l sz0 S) : am_W p l e R s m args below meth c Q D tc (am_ad b N0 sa) N0 nL h0l sz0 (pc, L, .ref x :: st, h) := by
  intro H locs ls cells slots hP hz hS hL hc hsl
  obtain ⟨hx, hb, hml, hown, hts, hK, hZ, hH0, hbN, hnm⟩ := hC
  dsimp only at hP hz hL hc hsl ⊢
  obtain rfl := Option.some.inj hs
  exact lv_astore_n (x := am_ad b N0 sa x) hx hb hdg rfl hL.1 hi rfl (fun ls' hl' => k H locs ls' cells slots hP hz hS (hL.sto (v := .ref x) hl') hc hsl)
theorem as_astore {i : Nat} {x : Nat} (hC : am_C p s m args meth c own yn cc nL D tc b N0 sa sv LL xs h0l) (hdg : decode cc pc = .ok (.astore i, 2)) (hi : (i : Nat) < nL) (hs : am_step xs LL (.astore i, 2, a, v, tg, ps) pc L (.ref x :: st) h = some S) (k : am_W p l e R s m args below meth c Q D tc (am_ad b N0 sa) N0 nL h0l sz0 S) : am_W p l e R s m args below meth c Q D tc (am_ad b N0 sa) N0 nL h0l sz0 (pc, L, .ref x :: st, h) := by
  intro H locs ls cells slots hP hz hS hL hc hsl
  obtain ⟨hx, hb, hml, hown, hts, hK, hZ, hH0, hbN, hnm⟩ := hC
  dsimp only at hP hz hL hc hsl ⊢
  obtain rfl := Option.some.inj hs
  exact lv_astore (x := am_ad b N0 sa x) hx hb hdg hL.1 hi rfl (fun ls' hl' => k H locs ls' cells slots hP hz hS (hL.sto (v := .ref x) hl') hc hsl)
theorem as_astore_nN {i : Fin 4} (hC : am_C p s m args meth c own yn cc nL D tc b N0 sa sv LL xs h0l) (hdg : decode cc pc = .ok (.astore_n i, 1)) (hi : (i : Nat) < nL) (hs : am_step xs LL (.astore_n i, 1, a, v, tg, ps) pc L (.null :: st) h = some S) (k : am_W p l e R s m args below meth c Q D tc (am_ad b N0 sa) N0 nL h0l sz0 S) : am_W p l e R s m args below meth c Q D tc (am_ad b N0 sa) N0 nL h0l sz0 (pc, L, .null :: st, h) := by
  intro H locs ls cells slots hP hz hS hL hc hsl
  obtain ⟨hx, hb, hml, hown, hts, hK, hZ, hH0, hbN, hnm⟩ := hC
  dsimp only at hP hz hL hc hsl ⊢
  obtain rfl := Option.some.inj hs
  exact lv_astore_nN hx hb hdg rfl hL.1 hi rfl (fun ls' hl' => k H locs ls' cells slots hP hz hS (hL.sto (v := .null) hl') hc hsl)
theorem as_astoreN {i : Nat} (hC : am_C p s m args meth c own yn cc nL D tc b N0 sa sv LL xs h0l) (hdg : decode cc pc = .ok (.astore i, 2)) (hi : (i : Nat) < nL) (hs : am_step xs LL (.astore i, 2, a, v, tg, ps) pc L (.null :: st) h = some S) (k : am_W p l e R s m args below meth c Q D tc (am_ad b N0 sa) N0 nL h0l sz0 S) : am_W p l e R s m args below meth c Q D tc (am_ad b N0 sa) N0 nL h0l sz0 (pc, L, .null :: st, h) := by
  intro H locs ls cells slots hP hz hS hL hc hsl
  obtain ⟨hx, hb, hml, hown, hts, hK, hZ, hH0, hbN, hnm⟩ := hC
  dsimp only at hP hz hL hc hsl ⊢
  obtain rfl := Option.some.inj hs
  exact lv_astoreN hx hb hdg hL.1 hi rfl (fun ls' hl' => k H locs ls' cells slots hP hz hS (hL.sto (v := .null) hl') hc hsl)
theorem as_lstore_n {i : Fin 4} {x : Int64} (hC : am_C p s m args meth c own yn cc nL D tc b N0 sa sv LL xs h0l) (hdg : decode cc pc = .ok (.lstore_n i, 1)) (hi : (i : Nat) + 1 < nL) (hs : am_step xs LL (.lstore_n i, 1, a, v, tg, ps) pc L (.long x :: st) h = some S) (k : am_W p l e R s m args below meth c Q D tc (am_ad b N0 sa) N0 nL h0l sz0 S) : am_W p l e R s m args below meth c Q D tc (am_ad b N0 sa) N0 nL h0l sz0 (pc, L, .long x :: st, h) := by
  intro H locs ls cells slots hP hz hS hL hc hsl
  obtain ⟨hx, hb, hml, hown, hts, hK, hZ, hH0, hbN, hnm⟩ := hC
  dsimp only at hP hz hL hc hsl ⊢
  obtain rfl := Option.some.inj hs
  exact lv_lstore_n (x := x) hx hb hdg rfl hL.1 hi rfl (fun ls' hl' => k H locs ls' cells slots hP hz hS (hL.sto2 (v := .long x) hl') hc hsl)
theorem as_lstore {i : Nat} {x : Int64} (hC : am_C p s m args meth c own yn cc nL D tc b N0 sa sv LL xs h0l) (hdg : decode cc pc = .ok (.lstore i, 2)) (hi : (i : Nat) + 1 < nL) (hs : am_step xs LL (.lstore i, 2, a, v, tg, ps) pc L (.long x :: st) h = some S) (k : am_W p l e R s m args below meth c Q D tc (am_ad b N0 sa) N0 nL h0l sz0 S) : am_W p l e R s m args below meth c Q D tc (am_ad b N0 sa) N0 nL h0l sz0 (pc, L, .long x :: st, h) := by
  intro H locs ls cells slots hP hz hS hL hc hsl
  obtain ⟨hx, hb, hml, hown, hts, hK, hZ, hH0, hbN, hnm⟩ := hC
  dsimp only at hP hz hL hc hsl ⊢
  obtain rfl := Option.some.inj hs
  exact lv_lstore (x := x) hx hb hdg hL.1 hi rfl (fun ls' hl' => k H locs ls' cells slots hP hz hS (hL.sto2 (v := .long x) hl') hc hsl)
theorem as_iinc {i : Nat} {n : Int} (hC : am_C p s m args meth c own yn cc nL D tc b N0 sa sv LL xs h0l) (hdg : decode cc pc = .ok (.iinc i n, 3)) (hi : i < nL) (hs : am_step xs LL (.iinc i n, 3, a, v, tg, ps) pc L (st) h = some S) (k : am_W p l e R s m args below meth c Q D tc (am_ad b N0 sa) N0 nL h0l sz0 S) : am_W p l e R s m args below meth c Q D tc (am_ad b N0 sa) N0 nL h0l sz0 (pc, L, st, h) := by
  intro H locs ls cells slots hP hz hS hL hc hsl
  obtain ⟨hx, hb, hml, hown, hts, hK, hZ, hH0, hbN, hnm⟩ := hC
  dsimp only at hP hz hL hc hsl ⊢
  dsimp only [am_step] at hs
  split at hs
  · rename_i x hv
    obtain rfl := Option.some.inj hs
    obtain ⟨kk, hkk⟩ := List.getElem?_of_mem (am_lv_mem.mpr ⟨_, hv, rfl⟩ : (i, am_v (am_ad b N0 sa) (.int x)) ∈ am_lv (am_ad b N0 sa) L)
    exact lv_iinc (x := x) hx hb hdg hL.1 (k := kk) hkk rfl hi rfl (fun ls' hl' => k H locs ls' cells slots hP hz hS (hL.sto (v := .int (x + Int32.ofInt n)) hl') hc hsl)
  · cases hs
theorem as_dup {w : Value} (hC : am_C p s m args meth c own yn cc nL D tc b N0 sa sv LL xs h0l) (hdg : decode cc pc = .ok (.dup, 1))  (hs : am_step xs LL (.dup, 1, a, v, tg, ps) pc L (w :: st) h = some S) (k : am_W p l e R s m args below meth c Q D tc (am_ad b N0 sa) N0 nL h0l sz0 S) : am_W p l e R s m args below meth c Q D tc (am_ad b N0 sa) N0 nL h0l sz0 (pc, L, w :: st, h) := by
  intro H locs ls cells slots hP hz hS hL hc hsl
  obtain ⟨hx, hb, hml, hown, hts, hK, hZ, hH0, hbN, hnm⟩ := hC
  dsimp only at hP hz hL hc hsl ⊢
  dsimp only [am_step] at hs
  cases hw : Nat.beq w.category 1 with
  | false => rw [hw] at hs; cases hs
  | true =>
    rw [hw, cond_true] at hs
    obtain rfl := Option.some.inj hs
    exact lv_dup hx hb hdg ((am_v_cat _ _).trans (Nat.eq_of_beq_eq_true hw)) (k H locs ls cells slots hP hz hS hL hc hsl)
theorem as_dup_x1 {w u : Value} (hC : am_C p s m args meth c own yn cc nL D tc b N0 sa sv LL xs h0l) (hdg : decode cc pc = .ok (.dup_x1, 1))  (hs : am_step xs LL (.dup_x1, 1, a, v, tg, ps) pc L (w :: u :: st) h = some S) (k : am_W p l e R s m args below meth c Q D tc (am_ad b N0 sa) N0 nL h0l sz0 S) : am_W p l e R s m args below meth c Q D tc (am_ad b N0 sa) N0 nL h0l sz0 (pc, L, w :: u :: st, h) := by
  intro H locs ls cells slots hP hz hS hL hc hsl
  obtain ⟨hx, hb, hml, hown, hts, hK, hZ, hH0, hbN, hnm⟩ := hC
  dsimp only at hP hz hL hc hsl ⊢
  dsimp only [am_step] at hs
  cases hw : (Nat.beq w.category 1 && Nat.beq u.category 1) with
  | false => rw [hw] at hs; cases hs
  | true =>
    rw [hw, cond_true] at hs
    rw [Bool.and_eq_true] at hw
    obtain rfl := Option.some.inj hs
    exact lv_dup_x1 hx hb hdg ((am_v_cat _ _).trans (Nat.eq_of_beq_eq_true hw.1)) ((am_v_cat _ _).trans (Nat.eq_of_beq_eq_true hw.2)) (k H locs ls cells slots hP hz hS hL hc hsl)
theorem as_dup2 {w u : Value} (hC : am_C p s m args meth c own yn cc nL D tc b N0 sa sv LL xs h0l) (hdg : decode cc pc = .ok (.dup2, 1))  (hs : am_step xs LL (.dup2, 1, a, v, tg, ps) pc L (w :: u :: st) h = some S) (k : am_W p l e R s m args below meth c Q D tc (am_ad b N0 sa) N0 nL h0l sz0 S) : am_W p l e R s m args below meth c Q D tc (am_ad b N0 sa) N0 nL h0l sz0 (pc, L, w :: u :: st, h) := by
  intro H locs ls cells slots hP hz hS hL hc hsl
  obtain ⟨hx, hb, hml, hown, hts, hK, hZ, hH0, hbN, hnm⟩ := hC
  dsimp only at hP hz hL hc hsl ⊢
  dsimp only [am_step] at hs
  cases hw : (Nat.beq w.category 1 && Nat.beq u.category 1) with
  | false => rw [hw] at hs; cases hs
  | true =>
    rw [hw, cond_true] at hs
    rw [Bool.and_eq_true] at hw
    obtain rfl := Option.some.inj hs
    exact lv_dup2_11 hx hb hdg ((am_v_cat _ _).trans (Nat.eq_of_beq_eq_true hw.1)) ((am_v_cat _ _).trans (Nat.eq_of_beq_eq_true hw.2)) (k H locs ls cells slots hP hz hS hL hc hsl)
theorem as_l2i {x : Int64} (hC : am_C p s m args meth c own yn cc nL D tc b N0 sa sv LL xs h0l) (hdg : decode cc pc = .ok (.l2i, 1))  (hs : am_step xs LL (.l2i, 1, a, v, tg, ps) pc L (.long x :: st) h = some S) (k : am_W p l e R s m args below meth c Q D tc (am_ad b N0 sa) N0 nL h0l sz0 S) : am_W p l e R s m args below meth c Q D tc (am_ad b N0 sa) N0 nL h0l sz0 (pc, L, .long x :: st, h) := by
  intro H locs ls cells slots hP hz hS hL hc hsl
  obtain ⟨hx, hb, hml, hown, hts, hK, hZ, hH0, hbN, hnm⟩ := hC
  dsimp only at hP hz hL hc hsl ⊢
  obtain rfl := Option.some.inj hs
  exact lv_l2i hx hb hdg rfl (k H locs ls cells slots hP hz hS hL hc hsl)
theorem as_ineg {x : Int32} (hC : am_C p s m args meth c own yn cc nL D tc b N0 sa sv LL xs h0l) (hdg : decode cc pc = .ok (.ineg, 1))  (hs : am_step xs LL (.ineg, 1, a, v, tg, ps) pc L (.int x :: st) h = some S) (k : am_W p l e R s m args below meth c Q D tc (am_ad b N0 sa) N0 nL h0l sz0 S) : am_W p l e R s m args below meth c Q D tc (am_ad b N0 sa) N0 nL h0l sz0 (pc, L, .int x :: st, h) := by
  intro H locs ls cells slots hP hz hS hL hc hsl
  obtain ⟨hx, hb, hml, hown, hts, hK, hZ, hH0, hbN, hnm⟩ := hC
  dsimp only at hP hz hL hc hsl ⊢
  obtain rfl := Option.some.inj hs
  exact lv_ineg hx hb hdg (k H locs ls cells slots hP hz hS hL hc hsl)
theorem as_i2l {x : Int32} (hC : am_C p s m args meth c own yn cc nL D tc b N0 sa sv LL xs h0l) (hdg : decode cc pc = .ok (.i2l, 1))  (hs : am_step xs LL (.i2l, 1, a, v, tg, ps) pc L (.int x :: st) h = some S) (k : am_W p l e R s m args below meth c Q D tc (am_ad b N0 sa) N0 nL h0l sz0 S) : am_W p l e R s m args below meth c Q D tc (am_ad b N0 sa) N0 nL h0l sz0 (pc, L, .int x :: st, h) := by
  intro H locs ls cells slots hP hz hS hL hc hsl
  obtain ⟨hx, hb, hml, hown, hts, hK, hZ, hH0, hbN, hnm⟩ := hC
  dsimp only at hP hz hL hc hsl ⊢
  obtain rfl := Option.some.inj hs
  exact lv_i2l hx hb hdg rfl (k H locs ls cells slots hP hz hS hL hc hsl)
theorem as_i2b {x : Int32} (hC : am_C p s m args meth c own yn cc nL D tc b N0 sa sv LL xs h0l) (hdg : decode cc pc = .ok (.i2b, 1))  (hs : am_step xs LL (.i2b, 1, a, v, tg, ps) pc L (.int x :: st) h = some S) (k : am_W p l e R s m args below meth c Q D tc (am_ad b N0 sa) N0 nL h0l sz0 S) : am_W p l e R s m args below meth c Q D tc (am_ad b N0 sa) N0 nL h0l sz0 (pc, L, .int x :: st, h) := by
  intro H locs ls cells slots hP hz hS hL hc hsl
  obtain ⟨hx, hb, hml, hown, hts, hK, hZ, hH0, hbN, hnm⟩ := hC
  dsimp only at hP hz hL hc hsl ⊢
  obtain rfl := Option.some.inj hs
  exact lv_i2b hx hb hdg rfl (k H locs ls cells slots hP hz hS hL hc hsl)
theorem as_i2s {x : Int32} (hC : am_C p s m args meth c own yn cc nL D tc b N0 sa sv LL xs h0l) (hdg : decode cc pc = .ok (.i2s, 1))  (hs : am_step xs LL (.i2s, 1, a, v, tg, ps) pc L (.int x :: st) h = some S) (k : am_W p l e R s m args below meth c Q D tc (am_ad b N0 sa) N0 nL h0l sz0 S) : am_W p l e R s m args below meth c Q D tc (am_ad b N0 sa) N0 nL h0l sz0 (pc, L, .int x :: st, h) := by
  intro H locs ls cells slots hP hz hS hL hc hsl
  obtain ⟨hx, hb, hml, hown, hts, hK, hZ, hH0, hbN, hnm⟩ := hC
  dsimp only at hP hz hL hc hsl ⊢
  obtain rfl := Option.some.inj hs
  exact lv_i2s hx hb hdg rfl (k H locs ls cells slots hP hz hS hL hc hsl)
theorem as_iadd {x y : Int32} (hC : am_C p s m args meth c own yn cc nL D tc b N0 sa sv LL xs h0l) (hdg : decode cc pc = .ok (.iadd, 1))  (hs : am_step xs LL (.iadd, 1, a, v, tg, ps) pc L (.int y :: .int x :: st) h = some S) (k : am_W p l e R s m args below meth c Q D tc (am_ad b N0 sa) N0 nL h0l sz0 S) : am_W p l e R s m args below meth c Q D tc (am_ad b N0 sa) N0 nL h0l sz0 (pc, L, .int y :: .int x :: st, h) := by
  intro H locs ls cells slots hP hz hS hL hc hsl
  obtain ⟨hx, hb, hml, hown, hts, hK, hZ, hH0, hbN, hnm⟩ := hC
  dsimp only at hP hz hL hc hsl ⊢
  obtain rfl := Option.some.inj hs
  exact lv_iadd hx hb hdg (k H locs ls cells slots hP hz hS hL hc hsl)
theorem as_isub {x y : Int32} (hC : am_C p s m args meth c own yn cc nL D tc b N0 sa sv LL xs h0l) (hdg : decode cc pc = .ok (.isub, 1))  (hs : am_step xs LL (.isub, 1, a, v, tg, ps) pc L (.int y :: .int x :: st) h = some S) (k : am_W p l e R s m args below meth c Q D tc (am_ad b N0 sa) N0 nL h0l sz0 S) : am_W p l e R s m args below meth c Q D tc (am_ad b N0 sa) N0 nL h0l sz0 (pc, L, .int y :: .int x :: st, h) := by
  intro H locs ls cells slots hP hz hS hL hc hsl
  obtain ⟨hx, hb, hml, hown, hts, hK, hZ, hH0, hbN, hnm⟩ := hC
  dsimp only at hP hz hL hc hsl ⊢
  obtain rfl := Option.some.inj hs
  exact lv_isub hx hb hdg (k H locs ls cells slots hP hz hS hL hc hsl)
theorem as_imul {x y : Int32} (hC : am_C p s m args meth c own yn cc nL D tc b N0 sa sv LL xs h0l) (hdg : decode cc pc = .ok (.imul, 1))  (hs : am_step xs LL (.imul, 1, a, v, tg, ps) pc L (.int y :: .int x :: st) h = some S) (k : am_W p l e R s m args below meth c Q D tc (am_ad b N0 sa) N0 nL h0l sz0 S) : am_W p l e R s m args below meth c Q D tc (am_ad b N0 sa) N0 nL h0l sz0 (pc, L, .int y :: .int x :: st, h) := by
  intro H locs ls cells slots hP hz hS hL hc hsl
  obtain ⟨hx, hb, hml, hown, hts, hK, hZ, hH0, hbN, hnm⟩ := hC
  dsimp only at hP hz hL hc hsl ⊢
  obtain rfl := Option.some.inj hs
  exact lv_imul hx hb hdg (k H locs ls cells slots hP hz hS hL hc hsl)
theorem as_iand {x y : Int32} (hC : am_C p s m args meth c own yn cc nL D tc b N0 sa sv LL xs h0l) (hdg : decode cc pc = .ok (.iand, 1))  (hs : am_step xs LL (.iand, 1, a, v, tg, ps) pc L (.int y :: .int x :: st) h = some S) (k : am_W p l e R s m args below meth c Q D tc (am_ad b N0 sa) N0 nL h0l sz0 S) : am_W p l e R s m args below meth c Q D tc (am_ad b N0 sa) N0 nL h0l sz0 (pc, L, .int y :: .int x :: st, h) := by
  intro H locs ls cells slots hP hz hS hL hc hsl
  obtain ⟨hx, hb, hml, hown, hts, hK, hZ, hH0, hbN, hnm⟩ := hC
  dsimp only at hP hz hL hc hsl ⊢
  obtain rfl := Option.some.inj hs
  exact lv_iand hx hb hdg (k H locs ls cells slots hP hz hS hL hc hsl)
theorem as_ior {x y : Int32} (hC : am_C p s m args meth c own yn cc nL D tc b N0 sa sv LL xs h0l) (hdg : decode cc pc = .ok (.ior, 1))  (hs : am_step xs LL (.ior, 1, a, v, tg, ps) pc L (.int y :: .int x :: st) h = some S) (k : am_W p l e R s m args below meth c Q D tc (am_ad b N0 sa) N0 nL h0l sz0 S) : am_W p l e R s m args below meth c Q D tc (am_ad b N0 sa) N0 nL h0l sz0 (pc, L, .int y :: .int x :: st, h) := by
  intro H locs ls cells slots hP hz hS hL hc hsl
  obtain ⟨hx, hb, hml, hown, hts, hK, hZ, hH0, hbN, hnm⟩ := hC
  dsimp only at hP hz hL hc hsl ⊢
  obtain rfl := Option.some.inj hs
  exact lv_ior hx hb hdg (k H locs ls cells slots hP hz hS hL hc hsl)
theorem as_ixor {x y : Int32} (hC : am_C p s m args meth c own yn cc nL D tc b N0 sa sv LL xs h0l) (hdg : decode cc pc = .ok (.ixor, 1))  (hs : am_step xs LL (.ixor, 1, a, v, tg, ps) pc L (.int y :: .int x :: st) h = some S) (k : am_W p l e R s m args below meth c Q D tc (am_ad b N0 sa) N0 nL h0l sz0 S) : am_W p l e R s m args below meth c Q D tc (am_ad b N0 sa) N0 nL h0l sz0 (pc, L, .int y :: .int x :: st, h) := by
  intro H locs ls cells slots hP hz hS hL hc hsl
  obtain ⟨hx, hb, hml, hown, hts, hK, hZ, hH0, hbN, hnm⟩ := hC
  dsimp only at hP hz hL hc hsl ⊢
  obtain rfl := Option.some.inj hs
  exact lv_ixor hx hb hdg (k H locs ls cells slots hP hz hS hL hc hsl)
theorem as_ishl {x y : Int32} (hC : am_C p s m args meth c own yn cc nL D tc b N0 sa sv LL xs h0l) (hdg : decode cc pc = .ok (.ishl, 1))  (hs : am_step xs LL (.ishl, 1, a, v, tg, ps) pc L (.int y :: .int x :: st) h = some S) (k : am_W p l e R s m args below meth c Q D tc (am_ad b N0 sa) N0 nL h0l sz0 S) : am_W p l e R s m args below meth c Q D tc (am_ad b N0 sa) N0 nL h0l sz0 (pc, L, .int y :: .int x :: st, h) := by
  intro H locs ls cells slots hP hz hS hL hc hsl
  obtain ⟨hx, hb, hml, hown, hts, hK, hZ, hH0, hbN, hnm⟩ := hC
  dsimp only at hP hz hL hc hsl ⊢
  obtain rfl := Option.some.inj hs
  exact lv_ishl hx hb hdg (k H locs ls cells slots hP hz hS hL hc hsl)
theorem as_ishr {x y : Int32} (hC : am_C p s m args meth c own yn cc nL D tc b N0 sa sv LL xs h0l) (hdg : decode cc pc = .ok (.ishr, 1))  (hs : am_step xs LL (.ishr, 1, a, v, tg, ps) pc L (.int y :: .int x :: st) h = some S) (k : am_W p l e R s m args below meth c Q D tc (am_ad b N0 sa) N0 nL h0l sz0 S) : am_W p l e R s m args below meth c Q D tc (am_ad b N0 sa) N0 nL h0l sz0 (pc, L, .int y :: .int x :: st, h) := by
  intro H locs ls cells slots hP hz hS hL hc hsl
  obtain ⟨hx, hb, hml, hown, hts, hK, hZ, hH0, hbN, hnm⟩ := hC
  dsimp only at hP hz hL hc hsl ⊢
  obtain rfl := Option.some.inj hs
  exact lv_ishr hx hb hdg (k H locs ls cells slots hP hz hS hL hc hsl)
theorem as_iushr {x y : Int32} (hC : am_C p s m args meth c own yn cc nL D tc b N0 sa sv LL xs h0l) (hdg : decode cc pc = .ok (.iushr, 1))  (hs : am_step xs LL (.iushr, 1, a, v, tg, ps) pc L (.int y :: .int x :: st) h = some S) (k : am_W p l e R s m args below meth c Q D tc (am_ad b N0 sa) N0 nL h0l sz0 S) : am_W p l e R s m args below meth c Q D tc (am_ad b N0 sa) N0 nL h0l sz0 (pc, L, .int y :: .int x :: st, h) := by
  intro H locs ls cells slots hP hz hS hL hc hsl
  obtain ⟨hx, hb, hml, hown, hts, hK, hZ, hH0, hbN, hnm⟩ := hC
  dsimp only at hP hz hL hc hsl ⊢
  obtain rfl := Option.some.inj hs
  exact lv_iushr hx hb hdg rfl (k H locs ls cells slots hP hz hS hL hc hsl)
theorem as_idiv {x y : Int32} (hC : am_C p s m args meth c own yn cc nL D tc b N0 sa sv LL xs h0l) (hdg : decode cc pc = .ok (.idiv, 1))  (hs : am_step xs LL (.idiv, 1, a, v, tg, ps) pc L (.int y :: .int x :: st) h = some S) (k : am_W p l e R s m args below meth c Q D tc (am_ad b N0 sa) N0 nL h0l sz0 S) : am_W p l e R s m args below meth c Q D tc (am_ad b N0 sa) N0 nL h0l sz0 (pc, L, .int y :: .int x :: st, h) := by
  intro H locs ls cells slots hP hz hS hL hc hsl
  obtain ⟨hx, hb, hml, hown, hts, hK, hZ, hH0, hbN, hnm⟩ := hC
  dsimp only at hP hz hL hc hsl ⊢
  dsimp only [am_step, am_op2] at hs
  by_cases hy : y = 0
  · rw [if_pos hy] at hs; cases hs
  · rw [if_neg hy] at hs
    obtain rfl := Option.some.inj hs
    exact lv_idiv hx hb hdg hy (k H locs ls cells slots hP hz hS hL hc hsl)
theorem as_ladd {x y : Int64} (hC : am_C p s m args meth c own yn cc nL D tc b N0 sa sv LL xs h0l) (hdg : decode cc pc = .ok (.ladd, 1))  (hs : am_step xs LL (.ladd, 1, a, v, tg, ps) pc L (.long y :: .long x :: st) h = some S) (k : am_W p l e R s m args below meth c Q D tc (am_ad b N0 sa) N0 nL h0l sz0 S) : am_W p l e R s m args below meth c Q D tc (am_ad b N0 sa) N0 nL h0l sz0 (pc, L, .long y :: .long x :: st, h) := by
  intro H locs ls cells slots hP hz hS hL hc hsl
  obtain ⟨hx, hb, hml, hown, hts, hK, hZ, hH0, hbN, hnm⟩ := hC
  dsimp only at hP hz hL hc hsl ⊢
  obtain rfl := Option.some.inj hs
  exact lv_ladd hx hb hdg (k H locs ls cells slots hP hz hS hL hc hsl)
theorem as_lmul {x y : Int64} (hC : am_C p s m args meth c own yn cc nL D tc b N0 sa sv LL xs h0l) (hdg : decode cc pc = .ok (.lmul, 1))  (hs : am_step xs LL (.lmul, 1, a, v, tg, ps) pc L (.long y :: .long x :: st) h = some S) (k : am_W p l e R s m args below meth c Q D tc (am_ad b N0 sa) N0 nL h0l sz0 S) : am_W p l e R s m args below meth c Q D tc (am_ad b N0 sa) N0 nL h0l sz0 (pc, L, .long y :: .long x :: st, h) := by
  intro H locs ls cells slots hP hz hS hL hc hsl
  obtain ⟨hx, hb, hml, hown, hts, hK, hZ, hH0, hbN, hnm⟩ := hC
  dsimp only at hP hz hL hc hsl ⊢
  obtain rfl := Option.some.inj hs
  exact lv_lmul hx hb hdg (k H locs ls cells slots hP hz hS hL hc hsl)
theorem as_land {x y : Int64} (hC : am_C p s m args meth c own yn cc nL D tc b N0 sa sv LL xs h0l) (hdg : decode cc pc = .ok (.land, 1))  (hs : am_step xs LL (.land, 1, a, v, tg, ps) pc L (.long y :: .long x :: st) h = some S) (k : am_W p l e R s m args below meth c Q D tc (am_ad b N0 sa) N0 nL h0l sz0 S) : am_W p l e R s m args below meth c Q D tc (am_ad b N0 sa) N0 nL h0l sz0 (pc, L, .long y :: .long x :: st, h) := by
  intro H locs ls cells slots hP hz hS hL hc hsl
  obtain ⟨hx, hb, hml, hown, hts, hK, hZ, hH0, hbN, hnm⟩ := hC
  dsimp only at hP hz hL hc hsl ⊢
  obtain rfl := Option.some.inj hs
  exact lv_land hx hb hdg (k H locs ls cells slots hP hz hS hL hc hsl)
theorem as_lor {x y : Int64} (hC : am_C p s m args meth c own yn cc nL D tc b N0 sa sv LL xs h0l) (hdg : decode cc pc = .ok (.lor, 1))  (hs : am_step xs LL (.lor, 1, a, v, tg, ps) pc L (.long y :: .long x :: st) h = some S) (k : am_W p l e R s m args below meth c Q D tc (am_ad b N0 sa) N0 nL h0l sz0 S) : am_W p l e R s m args below meth c Q D tc (am_ad b N0 sa) N0 nL h0l sz0 (pc, L, .long y :: .long x :: st, h) := by
  intro H locs ls cells slots hP hz hS hL hc hsl
  obtain ⟨hx, hb, hml, hown, hts, hK, hZ, hH0, hbN, hnm⟩ := hC
  dsimp only at hP hz hL hc hsl ⊢
  obtain rfl := Option.some.inj hs
  exact lv_lor hx hb hdg (k H locs ls cells slots hP hz hS hL hc hsl)
theorem as_lcmp {x y : Int64} (hC : am_C p s m args meth c own yn cc nL D tc b N0 sa sv LL xs h0l) (hdg : decode cc pc = .ok (.lcmp, 1))  (hs : am_step xs LL (.lcmp, 1, a, v, tg, ps) pc L (.long y :: .long x :: st) h = some S) (k : am_W p l e R s m args below meth c Q D tc (am_ad b N0 sa) N0 nL h0l sz0 S) : am_W p l e R s m args below meth c Q D tc (am_ad b N0 sa) N0 nL h0l sz0 (pc, L, .long y :: .long x :: st, h) := by
  intro H locs ls cells slots hP hz hS hL hc hsl
  obtain ⟨hx, hb, hml, hown, hts, hK, hZ, hH0, hbN, hnm⟩ := hC
  dsimp only at hP hz hL hc hsl ⊢
  obtain rfl := Option.some.inj hs
  exact W.lcmp hx hb hdg (k H locs ls cells slots hP hz hS hL hc hsl)
theorem as_lrem {x y : Int64} (hC : am_C p s m args meth c own yn cc nL D tc b N0 sa sv LL xs h0l) (hdg : decode cc pc = .ok (.lrem, 1))  (hs : am_step xs LL (.lrem, 1, a, v, tg, ps) pc L (.long y :: .long x :: st) h = some S) (k : am_W p l e R s m args below meth c Q D tc (am_ad b N0 sa) N0 nL h0l sz0 S) : am_W p l e R s m args below meth c Q D tc (am_ad b N0 sa) N0 nL h0l sz0 (pc, L, .long y :: .long x :: st, h) := by
  intro H locs ls cells slots hP hz hS hL hc hsl
  obtain ⟨hx, hb, hml, hown, hts, hK, hZ, hH0, hbN, hnm⟩ := hC
  dsimp only at hP hz hL hc hsl ⊢
  dsimp only [am_step, am_opL] at hs
  by_cases hy : y = 0
  · rw [if_pos hy] at hs; cases hs
  · rw [if_neg hy] at hs
    obtain rfl := Option.some.inj hs
    exact lv_lrem hx hb hdg hy (k H locs ls cells slots hP hz hS hL hc hsl)
theorem as_lshl {x : Int64} {y : Int32} (hC : am_C p s m args meth c own yn cc nL D tc b N0 sa sv LL xs h0l) (hdg : decode cc pc = .ok (.lshl, 1))  (hs : am_step xs LL (.lshl, 1, a, v, tg, ps) pc L (.int y :: .long x :: st) h = some S) (k : am_W p l e R s m args below meth c Q D tc (am_ad b N0 sa) N0 nL h0l sz0 S) : am_W p l e R s m args below meth c Q D tc (am_ad b N0 sa) N0 nL h0l sz0 (pc, L, .int y :: .long x :: st, h) := by
  intro H locs ls cells slots hP hz hS hL hc hsl
  obtain ⟨hx, hb, hml, hown, hts, hK, hZ, hH0, hbN, hnm⟩ := hC
  dsimp only at hP hz hL hc hsl ⊢
  obtain rfl := Option.some.inj hs
  exact lv_lshl hx hb hdg rfl (k H locs ls cells slots hP hz hS hL hc hsl)
theorem as_lshr {x : Int64} {y : Int32} (hC : am_C p s m args meth c own yn cc nL D tc b N0 sa sv LL xs h0l) (hdg : decode cc pc = .ok (.lshr, 1))  (hs : am_step xs LL (.lshr, 1, a, v, tg, ps) pc L (.int y :: .long x :: st) h = some S) (k : am_W p l e R s m args below meth c Q D tc (am_ad b N0 sa) N0 nL h0l sz0 S) : am_W p l e R s m args below meth c Q D tc (am_ad b N0 sa) N0 nL h0l sz0 (pc, L, .int y :: .long x :: st, h) := by
  intro H locs ls cells slots hP hz hS hL hc hsl
  obtain ⟨hx, hb, hml, hown, hts, hK, hZ, hH0, hbN, hnm⟩ := hC
  dsimp only at hP hz hL hc hsl ⊢
  obtain rfl := Option.some.inj hs
  exact lv_lshr hx hb hdg rfl (k H locs ls cells slots hP hz hS hL hc hsl)
theorem as_lushr {x : Int64} {y : Int32} (hC : am_C p s m args meth c own yn cc nL D tc b N0 sa sv LL xs h0l) (hdg : decode cc pc = .ok (.lushr, 1))  (hs : am_step xs LL (.lushr, 1, a, v, tg, ps) pc L (.int y :: .long x :: st) h = some S) (k : am_W p l e R s m args below meth c Q D tc (am_ad b N0 sa) N0 nL h0l sz0 S) : am_W p l e R s m args below meth c Q D tc (am_ad b N0 sa) N0 nL h0l sz0 (pc, L, .int y :: .long x :: st, h) := by
  intro H locs ls cells slots hP hz hS hL hc hsl
  obtain ⟨hx, hb, hml, hown, hts, hK, hZ, hH0, hbN, hnm⟩ := hC
  dsimp only at hP hz hL hc hsl ⊢
  obtain rfl := Option.some.inj hs
  exact lv_lushr hx hb hdg rfl (k H locs ls cells slots hP hz hS hL hc hsl)
theorem as_i2c {x : Int32} (hC : am_C p s m args meth c own yn cc nL D tc b N0 sa sv LL xs h0l) (hdg : decode cc pc = .ok (.i2c, 1))  (hs : am_step xs LL (.i2c, 1, a, v, tg, ps) pc L (.int x :: st) h = some S) (k : am_W p l e R s m args below meth c Q D tc (am_ad b N0 sa) N0 nL h0l sz0 S) : am_W p l e R s m args below meth c Q D tc (am_ad b N0 sa) N0 nL h0l sz0 (pc, L, .int x :: st, h) := by
  intro H locs ls cells slots hP hz hS hL hc hsl
  obtain ⟨hx, hb, hml, hown, hts, hK, hZ, hH0, hbN, hnm⟩ := hC
  dsimp only at hP hz hL hc hsl ⊢
  obtain rfl := Option.some.inj hs
  exact lv_i2c hx hb hdg rfl (k H locs ls cells slots hP hz hS hL hc hsl)
theorem as_pop {w : Value} (hC : am_C p s m args meth c own yn cc nL D tc b N0 sa sv LL xs h0l) (hdg : decode cc pc = .ok (.pop, 1))  (hs : am_step xs LL (.pop, 1, a, v, tg, ps) pc L (w :: st) h = some S) (k : am_W p l e R s m args below meth c Q D tc (am_ad b N0 sa) N0 nL h0l sz0 S) : am_W p l e R s m args below meth c Q D tc (am_ad b N0 sa) N0 nL h0l sz0 (pc, L, w :: st, h) := by
  intro H locs ls cells slots hP hz hS hL hc hsl
  obtain ⟨hx, hb, hml, hown, hts, hK, hZ, hH0, hbN, hnm⟩ := hC
  dsimp only at hP hz hL hc hsl ⊢
  dsimp only [am_step] at hs
  cases hw : Nat.beq w.category 1 with
  | false => rw [hw] at hs; cases hs
  | true =>
    rw [hw, cond_true] at hs
    obtain rfl := Option.some.inj hs
    exact lv_pop hx hb hdg ((am_v_cat _ _).trans (Nat.eq_of_beq_eq_true hw)) (k H locs ls cells slots hP hz hS hL hc hsl)
theorem as_if {x : Int32} {cn : ClassFile.Cond} {off : Int} (hC : am_C p s m args meth c own yn cc nL D tc b N0 sa sv LL xs h0l) (hdg : decode cc pc = .ok (.ifCond cn off, 3)) (ht : (pc : Int) + off = (a : Int)) (hs : am_step xs LL (.ifCond cn off, 3, a, v, tg, ps) pc L (.int x :: st) h = some S) (k : am_W p l e R s m args below meth c Q D tc (am_ad b N0 sa) N0 nL h0l sz0 S) : am_W p l e R s m args below meth c Q D tc (am_ad b N0 sa) N0 nL h0l sz0 (pc, L, .int x :: st, h) := by
  intro H locs ls cells slots hP hz hS hL hc hsl
  obtain ⟨hx, hb, hml, hown, hts, hK, hZ, hH0, hbN, hnm⟩ := hC
  dsimp only at hP hz hL hc hsl ⊢
  obtain rfl := Option.some.inj hs
  cases cn with
  | eq =>
    refine lv_if_eq (tgt := a) hx hb hdg ht (fun hc1 => ?_) (fun hc1 => ?_)
    · have k2 := k H locs ls cells slots hP hz hS hL hc hsl
      dsimp only [am_cnd] at k2
      rw [if_pos hc1] at k2
      exact k2
    · have k2 := k H locs ls cells slots hP hz hS hL hc hsl
      dsimp only [am_cnd] at k2
      rw [if_neg hc1] at k2
      exact k2
  | ne =>
    refine lv_if_ne (tgt := a) hx hb hdg ht (fun hc1 => ?_) (fun hc1 => ?_)
    · have k2 := k H locs ls cells slots hP hz hS hL hc hsl
      dsimp only [am_cnd] at k2
      rw [if_neg hc1] at k2
      exact k2
    · have k2 := k H locs ls cells slots hP hz hS hL hc hsl
      dsimp only [am_cnd] at k2
      rw [if_pos hc1] at k2
      exact k2
  | lt =>
    refine lv_if_lt (tgt := a) hx hb hdg ht (fun hc1 => ?_) (fun hc1 => ?_)
    · have k2 := k H locs ls cells slots hP hz hS hL hc hsl
      dsimp only [am_cnd] at k2
      rw [if_pos hc1] at k2
      exact k2
    · have k2 := k H locs ls cells slots hP hz hS hL hc hsl
      dsimp only [am_cnd] at k2
      rw [if_neg hc1] at k2
      exact k2
  | ge =>
    refine lv_if_ge (tgt := a) hx hb hdg ht (fun hc1 => ?_) (fun hc1 => ?_)
    · have k2 := k H locs ls cells slots hP hz hS hL hc hsl
      dsimp only [am_cnd] at k2
      rw [if_pos hc1] at k2
      exact k2
    · have k2 := k H locs ls cells slots hP hz hS hL hc hsl
      dsimp only [am_cnd] at k2
      rw [if_neg hc1] at k2
      exact k2
  | gt =>
    refine lv_if_gt (tgt := a) hx hb hdg ht (fun hc1 => ?_) (fun hc1 => ?_)
    · have k2 := k H locs ls cells slots hP hz hS hL hc hsl
      dsimp only [am_cnd] at k2
      rw [if_pos hc1] at k2
      exact k2
    · have k2 := k H locs ls cells slots hP hz hS hL hc hsl
      dsimp only [am_cnd] at k2
      rw [if_neg hc1] at k2
      exact k2
  | le =>
    refine lv_if_le (tgt := a) hx hb hdg ht (fun hc1 => ?_) (fun hc1 => ?_)
    · have k2 := k H locs ls cells slots hP hz hS hL hc hsl
      dsimp only [am_cnd] at k2
      rw [if_pos hc1] at k2
      exact k2
    · have k2 := k H locs ls cells slots hP hz hS hL hc hsl
      dsimp only [am_cnd] at k2
      rw [if_neg hc1] at k2
      exact k2
theorem as_icmp {x y : Int32} {cn : ClassFile.Cond} {off : Int} (hC : am_C p s m args meth c own yn cc nL D tc b N0 sa sv LL xs h0l) (hdg : decode cc pc = .ok (.if_icmp cn off, 3)) (ht : (pc : Int) + off = (a : Int)) (hs : am_step xs LL (.if_icmp cn off, 3, a, v, tg, ps) pc L (.int y :: .int x :: st) h = some S) (k : am_W p l e R s m args below meth c Q D tc (am_ad b N0 sa) N0 nL h0l sz0 S) : am_W p l e R s m args below meth c Q D tc (am_ad b N0 sa) N0 nL h0l sz0 (pc, L, .int y :: .int x :: st, h) := by
  intro H locs ls cells slots hP hz hS hL hc hsl
  obtain ⟨hx, hb, hml, hown, hts, hK, hZ, hH0, hbN, hnm⟩ := hC
  dsimp only at hP hz hL hc hsl ⊢
  obtain rfl := Option.some.inj hs
  cases cn with
  | eq =>
    refine lv_icmp_eq (tgt := a) hx hb hdg ht (fun hc1 => ?_) (fun hc1 => ?_)
    · have k2 := k H locs ls cells slots hP hz hS hL hc hsl
      dsimp only [am_cnd] at k2
      rw [if_pos hc1] at k2
      exact k2
    · have k2 := k H locs ls cells slots hP hz hS hL hc hsl
      dsimp only [am_cnd] at k2
      rw [if_neg hc1] at k2
      exact k2
  | ne =>
    refine lv_icmp_ne (tgt := a) hx hb hdg ht (fun hc1 => ?_) (fun hc1 => ?_)
    · have k2 := k H locs ls cells slots hP hz hS hL hc hsl
      dsimp only [am_cnd] at k2
      rw [if_neg hc1] at k2
      exact k2
    · have k2 := k H locs ls cells slots hP hz hS hL hc hsl
      dsimp only [am_cnd] at k2
      rw [if_pos hc1] at k2
      exact k2
  | lt =>
    refine lv_icmp_lt (tgt := a) hx hb hdg ht (fun hc1 => ?_) (fun hc1 => ?_)
    · have k2 := k H locs ls cells slots hP hz hS hL hc hsl
      dsimp only [am_cnd] at k2
      rw [if_pos hc1] at k2
      exact k2
    · have k2 := k H locs ls cells slots hP hz hS hL hc hsl
      dsimp only [am_cnd] at k2
      rw [if_neg hc1] at k2
      exact k2
  | ge =>
    refine lv_icmp_ge (tgt := a) hx hb hdg ht (fun hc1 => ?_) (fun hc1 => ?_)
    · have k2 := k H locs ls cells slots hP hz hS hL hc hsl
      dsimp only [am_cnd] at k2
      rw [if_pos hc1] at k2
      exact k2
    · have k2 := k H locs ls cells slots hP hz hS hL hc hsl
      dsimp only [am_cnd] at k2
      rw [if_neg hc1] at k2
      exact k2
  | gt =>
    refine lv_icmp_gt (tgt := a) hx hb hdg ht (fun hc1 => ?_) (fun hc1 => ?_)
    · have k2 := k H locs ls cells slots hP hz hS hL hc hsl
      dsimp only [am_cnd] at k2
      rw [if_pos hc1] at k2
      exact k2
    · have k2 := k H locs ls cells slots hP hz hS hL hc hsl
      dsimp only [am_cnd] at k2
      rw [if_neg hc1] at k2
      exact k2
  | le =>
    refine lv_icmp_le (tgt := a) hx hb hdg ht (fun hc1 => ?_) (fun hc1 => ?_)
    · have k2 := k H locs ls cells slots hP hz hS hL hc hsl
      dsimp only [am_cnd] at k2
      rw [if_pos hc1] at k2
      exact k2
    · have k2 := k H locs ls cells slots hP hz hS hL hc hsl
      dsimp only [am_cnd] at k2
      rw [if_neg hc1] at k2
      exact k2
theorem as_goto {off : Int} (hC : am_C p s m args meth c own yn cc nL D tc b N0 sa sv LL xs h0l) (hdg : decode cc pc = .ok (.goto off, 3)) (ht : (pc : Int) + off = (a : Int)) (hs : am_step xs LL (.goto off, 3, a, v, tg, ps) pc L (st) h = some S) (k : am_W p l e R s m args below meth c Q D tc (am_ad b N0 sa) N0 nL h0l sz0 S) : am_W p l e R s m args below meth c Q D tc (am_ad b N0 sa) N0 nL h0l sz0 (pc, L, st, h) := by
  intro H locs ls cells slots hP hz hS hL hc hsl
  obtain ⟨hx, hb, hml, hown, hts, hK, hZ, hH0, hbN, hnm⟩ := hC
  dsimp only at hP hz hL hc hsl ⊢
  obtain rfl := Option.some.inj hs
  exact lv_goto hx hb hdg ht (k H locs ls cells slots hP hz hS hL hc hsl)
theorem as_ifnullN {off : Int} (hC : am_C p s m args meth c own yn cc nL D tc b N0 sa sv LL xs h0l) (hdg : decode cc pc = .ok (.ifnull off, 3)) (ht : (pc : Int) + off = (a : Int)) (hs : am_step xs LL (.ifnull off, 3, a, v, tg, ps) pc L (.null :: st) h = some S) (k : am_W p l e R s m args below meth c Q D tc (am_ad b N0 sa) N0 nL h0l sz0 S) : am_W p l e R s m args below meth c Q D tc (am_ad b N0 sa) N0 nL h0l sz0 (pc, L, .null :: st, h) := by
  intro H locs ls cells slots hP hz hS hL hc hsl
  obtain ⟨hx, hb, hml, hown, hts, hK, hZ, hH0, hbN, hnm⟩ := hC
  dsimp only at hP hz hL hc hsl ⊢
  obtain rfl := Option.some.inj hs
  exact lv_ifnullN hx hb hdg ht (k H locs ls cells slots hP hz hS hL hc hsl)
theorem as_ifnull {off : Int} {x : Nat} (hC : am_C p s m args meth c own yn cc nL D tc b N0 sa sv LL xs h0l) (hdg : decode cc pc = .ok (.ifnull off, 3)) (ht : (pc : Int) + off = (a : Int)) (hs : am_step xs LL (.ifnull off, 3, a, v, tg, ps) pc L (.ref x :: st) h = some S) (k : am_W p l e R s m args below meth c Q D tc (am_ad b N0 sa) N0 nL h0l sz0 S) : am_W p l e R s m args below meth c Q D tc (am_ad b N0 sa) N0 nL h0l sz0 (pc, L, .ref x :: st, h) := by
  intro H locs ls cells slots hP hz hS hL hc hsl
  obtain ⟨hx, hb, hml, hown, hts, hK, hZ, hH0, hbN, hnm⟩ := hC
  dsimp only at hP hz hL hc hsl ⊢
  obtain rfl := Option.some.inj hs
  exact lv_ifnull hx hb hdg (k H locs ls cells slots hP hz hS hL hc hsl)
theorem as_ifnonnullN {off : Int} (hC : am_C p s m args meth c own yn cc nL D tc b N0 sa sv LL xs h0l) (hdg : decode cc pc = .ok (.ifnonnull off, 3)) (ht : (pc : Int) + off = (a : Int)) (hs : am_step xs LL (.ifnonnull off, 3, a, v, tg, ps) pc L (.null :: st) h = some S) (k : am_W p l e R s m args below meth c Q D tc (am_ad b N0 sa) N0 nL h0l sz0 S) : am_W p l e R s m args below meth c Q D tc (am_ad b N0 sa) N0 nL h0l sz0 (pc, L, .null :: st, h) := by
  intro H locs ls cells slots hP hz hS hL hc hsl
  obtain ⟨hx, hb, hml, hown, hts, hK, hZ, hH0, hbN, hnm⟩ := hC
  dsimp only at hP hz hL hc hsl ⊢
  obtain rfl := Option.some.inj hs
  exact lv_ifnonnullN hx hb hdg (k H locs ls cells slots hP hz hS hL hc hsl)
theorem as_ifnonnull {off : Int} {x : Nat} (hC : am_C p s m args meth c own yn cc nL D tc b N0 sa sv LL xs h0l) (hdg : decode cc pc = .ok (.ifnonnull off, 3)) (ht : (pc : Int) + off = (a : Int)) (hs : am_step xs LL (.ifnonnull off, 3, a, v, tg, ps) pc L (.ref x :: st) h = some S) (k : am_W p l e R s m args below meth c Q D tc (am_ad b N0 sa) N0 nL h0l sz0 S) : am_W p l e R s m args below meth c Q D tc (am_ad b N0 sa) N0 nL h0l sz0 (pc, L, .ref x :: st, h) := by
  intro H locs ls cells slots hP hz hS hL hc hsl
  obtain ⟨hx, hb, hml, hown, hts, hK, hZ, hH0, hbN, hnm⟩ := hC
  dsimp only at hP hz hL hc hsl ⊢
  obtain rfl := Option.some.inj hs
  exact lv_ifnonnull hx hb hdg ht (k H locs ls cells slots hP hz hS hL hc hsl)
end AMS
