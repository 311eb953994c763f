/-! calls of the pure machine are the machine's -/
theorem am_Z.same {b LL : Nat} {xs : Nat → Int32} {sa sv : Nat → Nat} {A : Nat → Prop} {u U : State} {H : Heap} (hv : U.vm = u.vm) (h : am_Z b LL xs sa sv A u H) : am_Z b LL xs sa sv A U H := by
  obtain ⟨h1, h2, h3, h4, h5, h6⟩ := h
  have hal : u.vm.Alike U.vm := by rw [hv]; exact Vm.Alike.refl _
  refine ⟨va_X.moved hal h1, fun q hq => vk_R.same hv (h2 q hq), vk_S.moved hal h3, fun q hq => va_Nc.moved hal (h4 q hq), ⟨va_Z.moved hal h5.1, va_Z.moved hal h5.2⟩, fun w hw => ?_⟩
  have h7 := (List.mem_filter.mp hw).2
  have h8 := h6 w hw
  unfold am_stkW at h7
  split at h7
  · exact va_Nw.same rfl hv.symm h8
  · exact va_Nw.same rfl hv.symm h8
  · exact va_AO.moved hal h8
  · cases h7
theorem am_Z.warm {b LL : Nat} {xs : Nat → Int32} {sa sv : Nat → Nat} {A : Nat → Prop} {s U : State} {H : Heap} (hW : s.WarmedH U.vm) (h : am_Z b LL xs sa sv A s H) : am_Z b LL xs sa sv A U H := by
  obtain ⟨h1, h2, h3, h4, h5, h6⟩ := h
  have hal : s.vm.Alike U.vm := hW.alike
  refine ⟨va_X.moved hal h1, fun q hq => vk_R.warm hW (h2 q hq), vk_S.moved hal h3, fun q hq => va_Nc.moved hal (h4 q hq), ⟨va_Z.moved hal h5.1, va_Z.moved hal h5.2⟩, fun w hw => ?_⟩
  have h7 := (List.mem_filter.mp hw).2
  have h8 := h6 w hw
  unfold am_stkW at h7
  split at h7
  · exact va_Nw.warmM hW h8
  · exact va_Nw.warmC hW h8
  · exact va_AO.moved hal h8
  · cases h7
theorem am_Z.kept {b LL : Nat} {xs : Nat → Int32} {sa sv : Nat → Nat} {A : Nat → Prop} {U : State} {H H1 : Heap} (hb : b < H.size) (hbA : ¬ A b) (h : am_Z b LL xs sa sv A U H) (hq : ∀ a : Nat, a < H.size → ¬ A a → H1[a]? = H[a]?) : am_Z b LL xs sa sv A U H1 := by
  obtain ⟨h1, h2, h3, h4, h5, h6⟩ := h
  exact ⟨va_X.kept h1 (hq b hb hbA), h2, vk_S.kept h3 hq, h4, ⟨va_Z.kept h5.1 hq, va_Z.kept h5.2 hq⟩, h6⟩
def am_rm (d mc ms : Nat) : Room := { frames := d, cells := mc, slots := ms, locals := 38 * d }
def am_Pc (D : va_G) (tc : Nat → Nat) (b N0 : Nat) (sa sv : Nat → Nat) (LL : Nat) (xs : Nat → Int32) (vs : List Value) (h : am_H) : Array Value → State → Prop := fun av U =>
  av = (vs.map (am_v (am_ad b N0 sa))).toArray ∧ U.heap.size = N0 + h.length ∧ va_P D vwCl (am_w tc (am_ad b N0 sa) h) U.heap ∧ va_K D vwCl (am_tys tc) U ∧ am_Z b LL xs sa sv (fun q => N0 ≤ q) U U.heap
def am_Qc (D : va_G) (tc : Nat → Nat) (b N0 : Nat) (sa : Nat → Nat) (r : Option Value) (h' : am_H) : Array Value → State → Outcome → State → Prop := fun _ st oc t =>
  oc = .returned (r.map (am_v (am_ad b N0 sa))) ∧ t.heap.size = N0 + h'.length ∧ va_P D vwCl (am_w tc (am_ad b N0 sa) h') t.heap ∧ va_F (fun q => N0 ≤ q) st t
theorem am_Pc_blind {D : va_G} {tc : Nat → Nat} {b N0 : Nat} {sa sv : Nat → Nat} {LL : Nat} {xs : Nat → Int32} {vs : List Value} {h : am_H} : FrameBlind (am_Pc D tc b N0 sa sv LL xs vs h) := by
  intro a U g mk q
  obtain ⟨q0, q1, q2, q3, q4⟩ := q
  exact ⟨q0, q1, q2, va_K.moved (u := U) (U := U.calling g mk a) (Vm.Alike.refl U.vm) q3, am_Z.same (u := U) rfl q4⟩
section AMK
variable {p : Program} {l : Launch} {e : Env} {R : Room} {s : State} {m : MethodId} {args : Array Value} {below : List Frame} {meth : Method} {c : Code} {Q : State → Prop}
variable {own yn : String} {cc : ByteArray} {nL : Nat} {D : va_G} {tc : Nat → Nat} {b N0 : Nat} {sa sv : Nat → Nat} {LL : Nat} {xs : Nat → Int32} {h0l sz0 pc : Nat} {L : am_L} {st : List Value} {h : am_H} {S : am_S}
theorem am_callk {H : Heap} {locs : List Loc} {cells slots mc ms : Nat} {ls : Array Slot} {st0 rest : List Value} {a : Array Value} {r : Option Value} {h1 : am_H} (hC : am_C p s m args meth c own yn cc nL D tc b N0 sa sv LL xs h0l)
    (hr : va_Run p l e R s m args below meth c H locs cells slots mc ms (F0 m pc ls st0) (rest.map (am_v (am_ad b N0 sa))) (am_Qc D tc b N0 sa r h1 a) (fun q => N0 ≤ q))
    (hS : va_S (fun q => N0 ≤ q) s.heap H locs) (hL : am_LR (am_ad b N0 sa) ls nL L) (hc : h0l + (cells + mc) = h1.length) (hsl : sz0 + (slots + ms) = am_sz h1)
    (k : am_W p l e R s m args below meth c Q D tc (am_ad b N0 sa) N0 nL h0l sz0 (pc + 3, L, r.toList ++ rest, h1)) : W p l e R s m args below meth c H locs cells slots Q (F0 m pc ls st0) := by
  intro T hT X
  obtain ⟨v, st₀, t, T', L', h0, X', hL', e1, e2, ⟨hv, hz, hP, hF⟩, st⟩ := hr T hT X
  cases hv
  have hz1 : va_S (fun q => N0 ≤ q) s.heap T'.heap (locs ++ L') := by
    rw [e1]
    refine ⟨Nat.le_trans hS.1 (by rw [← h0]; exact hF.1), fun q a1 a2 => ?_, fun q hq => ?_⟩
    · rw [hF.2 q (by rw [h0]; exact Nat.lt_of_lt_of_le a1 hS.1) a2, h0]
      exact hS.2.1 q a1 a2
    · rcases List.mem_append.mp hq with z | z
      · exact hS.2.2 q z
      · exact hL' q z
  have hk := k T'.heap (locs ++ L') ls (cells + mc) (slots + ms) (by rw [e1]; exact hP) (by rw [e1]; exact hz) hz1 hL hc hsl
  have e3 : (r.map (am_v (am_ad b N0 sa))).toList ++ rest.map (am_v (am_ad b N0 sa)) = (r.toList ++ rest).map (am_v (am_ad b N0 sa)) := by cases r <;> simp
  obtain ⟨t2, a1, b1⟩ := hk T' rfl X'
  refine ⟨t2, st t2 ?_, b1⟩
  rw [e3]
  exact a1
theorem am_pre {H : Heap} {locs : List Loc} {vs : List Value} (hC : am_C p s m args meth c own yn cc nL D tc b N0 sa sv LL xs h0l) (hP : va_P D vwCl (am_w tc (am_ad b N0 sa) h) H) (hz : H.size = N0 + h.length) (hS : va_S (fun q => N0 ≤ q) s.heap H locs) : ∀ U : State, U.heap = H → s.WarmedH U.vm → am_Pc D tc b N0 sa sv LL xs vs h (vs.map (am_v (am_ad b N0 sa))).toArray U := by
  intro U hU hW
  obtain ⟨hx, hb, hml, hown, hts, hK, hZ, hH0, hbN, hnm⟩ := hC
  refine ⟨rfl, by rw [hU]; exact hz, by rw [hU]; exact hP, va_K.moved hW.alike hK, ?_⟩
  rw [hU]
  exact am_Z.warm hW (am_Z.kept (by omega) (Nat.not_le.mpr hbN) hZ hS.2.1)
theorem am_pay (hC : am_C p s m args meth c own yn cc nL D tc b N0 sa sv LL xs h0l) {y : Nat} (hy : y < am_NM) : ∀ w ∈ am_ws y, ∀ (a' : Array Value) (U : State), s.WarmedH U.vm → w.before a' U = true := by
  obtain ⟨hx, hb, hml, hown, hts, hK, hZ, hH0, hbN, hnm⟩ := hC
  refine pay_in hts fun w hw => ?_
  have hw' : w ∈ am_tbl := by
    rcases List.mem_cons.mp hw with rfl | hw
    · exact am_cw_in hy
    · exact hw
  exact ⟨hw', good_of_word (List.mem_filter.mp hw').2⟩
theorem am_cats_map (ad : Nat → Nat) (st : List Value) : (List.map (fun v => Value.category v) (List.map (am_v ad) st)).sum = am_cats st := by
  unfold am_cats
  rw [List.map_map]
  congr 1
  exact List.map_congr_left fun w _ => am_v_cat _ w
theorem am_npOf {d : String} {a : Nat} (h : am_np d = some a) {n : Nat} (hn : n = a) : ∀ sig, parseMethodDescriptor d = some sig → n = sig.parameters.length := by
  intro sig hs
  unfold am_np at h
  rw [hs] at h
  rw [hn]
  exact (Option.some.inj h).symm
theorem am_rev {st : List Value} {a : Nat} : st = ((st.take a).reverse).reverse ++ st.drop a := by rw [List.reverse_reverse, List.take_append_drop]
theorem am_call_ok (en : am_En) {d mc ms y : Nat} {vs rest : List Value} {r : Option Value} {h1 : am_H} (hC : am_C p s m args meth c own yn cc nL D tc b N0 sa sv LL xs h0l) (hok : am_okc own en = true) (hdg : decode cc pc = .ok (en.1, en.2.1))
    (hR : d + 1 ≤ R.frames ∧ 38 * (d + 1) ≤ R.locals) (ht : am_tgt en st h = some (y, vs, rest)) (hM : Met l (am_y y) (am_ws y) (am_rm d mc ms) (am_Pc D tc b N0 sa sv LL xs vs h) (am_Qc D tc b N0 sa r h1) mc ms (fun q => N0 ≤ q))
    (hmc : h1.length = h.length + mc) (hms : am_sz h1 = am_sz h + ms) (hRc : h1.length ≤ h0l + R.cells) (hRs : am_sz h1 ≤ sz0 + R.slots)
    (k : am_W p l e R s m args below meth c Q D tc (am_ad b N0 sa) N0 nL h0l sz0 (pc + 3, L, r.toList ++ rest, h1)) : am_W p l e R s m args below meth c Q D tc (am_ad b N0 sa) N0 nL h0l sz0 (pc, L, st, h) := by
  intro H locs ls cells slots hP hz hS hL hc hsl
  have hC' := hC
  obtain ⟨hx, hb, hml, hown, hts, hK, hZ, hH0, hbN, hnm⟩ := hC
  dsimp only at hP hz hL hc hsl ⊢
  obtain ⟨i, ln, a, v, tg, ps⟩ := en
  have hok1 : (Nat.beq ln 3 && tg.all (am_okt own i a v ps)) = true := hok
  rw [Bool.and_eq_true] at hok1
  obtain ⟨hln, htg⟩ := hok1
  have htg := List.all_eq_true.mp htg
  have hln := Nat.eq_of_beq_eq_true hln
  dsimp only at hdg
  rw [hln] at hdg
  have fix : CallFix p m c cc nL s args am_tbl own := ⟨hx, hb, hml, hown, hts⟩
  have hsize : ls.size = nL := hL.1.1
  have hf : cells + mc ≤ R.cells ∧ slots + ms ≤ R.slots := by omega
  have fin : ∀ (st0 : List Value) (aa : Array Value), va_Run p l e R s m args below meth c H locs cells slots mc ms (F0 m pc ls st0) (rest.map (am_v (am_ad b N0 sa))) (am_Qc D tc b N0 sa r h1 aa) (fun q => N0 ≤ q) → W p l e R s m args below meth c H locs cells slots Q (F0 m pc ls st0) :=
    fun st0 aa hr => am_callk hC' hr hS hL (by omega) (by omega) k
  have hroom : ∀ {nl : Nat}, nl ≤ 19 → (am_rm d mc ms).frames + 1 ≤ R.frames ∧ 8 + (nl + 11) + (am_rm d mc ms).locals ≤ R.locals := by
    intro nl hnl
    show d + 1 ≤ R.frames ∧ 8 + (nl + 11) + 38 * d ≤ R.locals
    omega
  have hmap : ∀ (r0 : Nat) (vs0 : List Value), ((Value.ref r0 :: vs0).map (am_v (am_ad b N0 sa))).toArray = (Value.ref (am_ad b N0 sa r0) :: vs0.map (am_v (am_ad b N0 sa))).toArray := fun _ _ => rfl
  have hstk : ∀ (r0 : Nat) (rest0 : List Value), st.drop a = .ref r0 :: rest0 → st.map (am_v (am_ad b N0 sa)) = (((st.take a).reverse).map (am_v (am_ad b N0 sa))).reverse ++ .ref (am_ad b N0 sa r0) :: rest0.map (am_v (am_ad b N0 sa)) := by
    intro r0 rest0 e0
    rw [← List.map_reverse, List.reverse_reverse]
    conv => lhs; rw [← List.take_append_drop a st, e0]
    rw [List.map_append]
    rfl
  have hlen : ∀ (r0 : Nat) (rest0 : List Value), st.drop a = .ref r0 :: rest0 → (((st.take a).reverse).map (am_v (am_ad b N0 sa))).length = a := by
    intro r0 rest0 e0
    rw [List.length_map, List.length_reverse, List.length_take]
    have := congrArg List.length e0
    rw [List.length_drop, List.length_cons] at this
    omega
  cases i with
  | invokestatic idx =>
    rcases tg with _ | ⟨q, tg⟩
    · cases ht
    have ht1 : (bif Nat.ble a st.length && Nat.ble (am_cats (st.drop a)) 8 then some (q.2, (st.take a).reverse, st.drop a) else none) = some (y, vs, rest) := ht
    cases hb2 : (Nat.ble a st.length && Nat.ble (am_cats (st.drop a)) 8) with
    | false => rw [hb2] at ht1; cases ht1
    | true =>
      rw [hb2, cond_true] at ht1
      cases ht1
      rw [Bool.and_eq_true] at hb2
      have hal : a ≤ st.length := Nat.le_of_ble_eq_true hb2.1
      have hcat : am_cats (st.drop a) ≤ 8 := Nat.le_of_ble_eq_true hb2.2
      have hq := htg q List.mem_cons_self
      unfold am_okt at hq
      rw [Bool.and_eq_true] at hq
      obtain ⟨hy, hq⟩ := hq
      have hy := Nat.blt_eq.mp hy
      obtain ⟨g1, g2, g3, g4⟩ := am_mok_of hy
      have hn : (((st.take a).reverse).map (am_v (am_ad b N0 sa))).length = a := by
        rw [List.length_map, List.length_reverse, List.length_take]
        omega
      have hst : st.map (am_v (am_ad b N0 sa)) = (((st.take a).reverse).map (am_v (am_ad b N0 sa))).reverse ++ (st.drop a).map (am_v (am_ad b N0 sa)) := by
        rw [← List.map_reverse, List.reverse_reverse, ← List.map_append, List.take_append_drop]
      have hS' : PreS s H (am_Pc D tc b N0 sa sv LL xs (st.take a).reverse h) (((st.take a).reverse).map (am_v (am_ad b N0 sa))) := ⟨am_Pc_blind, am_pre hC' hP hz hS⟩
      have hq : am_okS own idx a v ps q.2 = true := hq
      unfold am_okS at hq
      split at hq
      · simp only [Bool.and_eq_true, decide_eq_true_eq] at hq
        exact fin _ _ (va_runS (n := a) (bytes := am_b q.2) (maxL := am_nl q.2) (ret := am_rt q.2) fix hM ⟨⟨rfl, rfl, (hroom g3).1, (hroom g3).2, am_pay hC' hy, List.mem_cons_self, hts _ (am_cw_in hy), hts _ g1, g2, am_npOf hq.1 rfl, hts _ (am_hx_mem hq.2.1)⟩, hts _ (am_hx_mem hq.2.2)⟩ hS' rfl hn hsize hst (lv_room (by rw [am_cats_map]; exact hcat)) hdg hf)
      · split at hq
        · split at hq
          · rename_i host hwd
            simp only [Bool.and_eq_true, decide_eq_true_eq] at hq
            exact fin _ _ (va_runSN (host := host) (n := a) (bytes := am_b q.2) (maxL := am_nl q.2) (ret := am_rt q.2) fix hM ⟨⟨⟨rfl, rfl, (hroom g3).1, (hroom g3).2, am_pay hC' hy, List.mem_cons_self⟩, hts _ (am_cw_in hy), hts _ g1, g2, am_npOf hq.1 rfl, va_Nw.use rfl (hZ.2.2.2.2.2 _ (am_ha_mem hq.2.1))⟩, hts _ (am_hx_mem hq.2.2), trivial⟩ hS' rfl hn hsize hst (lv_room (by rw [am_cats_map]; exact hcat)) hdg hf)
          · cases hq
        · cases hq
  | invokespecial idx =>
    rcases tg with _ | ⟨q, tg⟩
    · cases ht
    have ht1 : (match q :: tg, st.drop a with
      | q :: _, .ref r :: rest => bif Nat.ble (am_cats rest) 8 then (match (generalizing := false) am_get h r with
        | some (.inr _) => some (q.2, .ref r :: (st.take a).reverse, rest)
        | _ => none) else none
      | _, _ => none) = some (y, vs, rest) := ht
    split at ht1
    · rename_i q' tg' r0 rest0 hqe hdr
      cases hqe
      cases hb2 : Nat.ble (am_cats rest0) 8 with
      | false => rw [hb2] at ht1; cases ht1
      | true =>
        rw [hb2, cond_true] at ht1
        split at ht1
        · rename_i o hg
          obtain ⟨ci, fs⟩ := o
          cases ht1
          have hcat : am_cats rest ≤ 8 := Nat.le_of_ble_eq_true hb2
          have hq := htg q List.mem_cons_self
          unfold am_okt at hq
          rw [Bool.and_eq_true] at hq
          obtain ⟨hy, hq⟩ := hq
          have hy := Nat.blt_eq.mp hy
          obtain ⟨g1, g2, g3, g4⟩ := am_mok_of hy
          have hS' : PreS s H (am_Pc D tc b N0 sa sv LL xs (.ref r0 :: (st.take a).reverse) h) (.ref (am_ad b N0 sa r0) :: ((st.take a).reverse).map (am_v (am_ad b N0 sa))) := ⟨am_Pc_blind, am_pre hC' hP hz hS⟩
          have hq : am_okI own idx a v ps q.2 = true := hq
          unfold am_okI at hq
          split at hq
          · simp only [Bool.and_eq_true, decide_eq_true_eq] at hq
            exact fin _ _ (va_runI (n := a) (bytes := am_b q.2) (maxL := am_nl q.2) fix hM ⟨⟨rfl, rfl, (hroom g3).1, (hroom g3).2, am_pay hC' hy, by rw [← hq.2.2.1]; exact List.mem_cons_self, by rw [← hq.2.2.1]; exact hts _ (am_cw_in hy), hts _ g1, g2, am_npOf hq.1 rfl, hts _ (am_hx_mem hq.2.2.2.1)⟩, hq.2.1, hts _ (am_hx_mem hq.2.2.2.2)⟩ hS' rfl (hlen _ _ hdr) hsize (hstk _ _ hdr) (lv_room (by rw [am_cats_map]; exact hcat)) hdg hf)
          · split at hq
            · split at hq
              · rename_i host hwd
                simp only [Bool.and_eq_true, decide_eq_true_eq] at hq
                exact fin _ _ (va_runIN (host := host) (n := a) (bytes := am_b q.2) (maxL := am_nl q.2) fix hM ⟨⟨⟨rfl, rfl, (hroom g3).1, (hroom g3).2, am_pay hC' hy, by rw [← hq.2.2.1]; exact List.mem_cons_self⟩, by rw [← hq.2.2.1]; exact hts _ (am_cw_in hy), hts _ g1, g2, am_npOf hq.1 rfl, va_Nw.use rfl (hZ.2.2.2.2.2 _ (am_ha_mem hq.2.2.2.1))⟩, hq.2.1, hts _ (am_hx_mem hq.2.2.2.2)⟩ hS' rfl (hlen _ _ hdr) hsize (hstk _ _ hdr) (lv_room (by rw [am_cats_map]; exact hcat)) hdg hf)
              · cases hq
            · split at hq
              · simp only [Bool.and_eq_true, decide_eq_true_eq] at hq
                obtain ⟨r', e1, -⟩ := hP (r0 - 14) _ (am_w_get hg).1
                have hat := (hK.1 ci r' e1).2
                have hrv := va_recv (q := r') hK hP e1 (am_w_get hg).1
                exact fin _ _ (va_runSU (C := r'.1) (n := a) (bytes := am_b q.2) (maxL := am_nl q.2) (ret := am_rt q.2) hat fix hM ⟨⟨rfl, rfl, (hroom g3).1, (hroom g3).2, am_pay hC' hy, List.mem_cons_self⟩, hts _ (am_hx_mem hq.2.2.1), hts _ (am_hx_mem hq.2.2.2.1), hts _ (am_hx_mem hq.2.2.2.2.1), hts _ (am_hx_mem hq.2.2.2.2.2), hts _ g1, hts _ (am_cw_in hy), hq.2.1, am_npOf hq.1 rfl⟩ ⟨hS'.1, hrv, hS'.2⟩ rfl (hlen _ _ hdr) hsize (hstk _ _ hdr) (lv_room (by rw [am_cats_map]; exact hcat)) hdg hf)
              · cases hq
        · cases ht1
    · cases ht1
  | invokevirtual idx =>
    have ht1 : (match (generalizing := false) st.drop a with
      | .ref r :: rest => bif Nat.ble (am_cats rest) 8 then (match (generalizing := false) am_get h r with
        | some (.inr (ci, _)) => match (generalizing := false) am_look tg ci with
          | some y => bif decide (v = 7) then none else some (y, .ref r :: (st.take a).reverse, rest)
          | none => none
        | some (.inl _) => none
        | none => match (generalizing := false) tg with
          | q :: _ => bif decide (v = 7) && (Nat.blt 0 r && Nat.blt r 7) then some (q.2, .ref r :: (st.take a).reverse, rest) else none
          | [] => none) else none
      | _ => none) = some (y, vs, rest) := ht
    split at ht1
    · rename_i r0 rest0 hdr
      cases hb2 : Nat.ble (am_cats rest0) 8 with
      | false => rw [hb2] at ht1; cases ht1
      | true =>
        rw [hb2, cond_true] at ht1
        have hcat : am_cats rest0 ≤ 8 := Nat.le_of_ble_eq_true hb2
        have hS' : PreS s H (am_Pc D tc b N0 sa sv LL xs (.ref r0 :: (st.take a).reverse) h) (.ref (am_ad b N0 sa r0) :: ((st.take a).reverse).map (am_v (am_ad b N0 sa))) := ⟨am_Pc_blind, am_pre hC' hP hz hS⟩
        split at ht1
        · rename_i ci fs hg
          split at ht1
          · rename_i y' hlk
            cases hv7 : decide (v = 7) with
            | true => rw [hv7] at ht1; cases ht1
            | false =>
              rw [hv7, cond_false] at ht1
              cases ht1
              have hq := htg (ci, y) (am_look_mem hlk)
              unfold am_okt at hq
              rw [Bool.and_eq_true] at hq
              obtain ⟨hy, hq⟩ := hq
              have hy := Nat.blt_eq.mp hy
              obtain ⟨g1, g2, g3, g4⟩ := am_mok_of hy
              have hq : am_okV own idx a v ps ci y = true := hq
              unfold am_okV at hq
              split at hq
              · split at hq
                · rename_i r' e1
                  simp only [Bool.and_eq_true, decide_eq_true_eq] at hq
                  have hrv := va_recv (q := r') hK hP e1 (am_w_get hg).1
                  exact fin _ _ (va_runV (C := r'.1) (n := a) (bytes := am_b y) (maxL := am_nl y) (ret := am_rt y) fix hM ⟨⟨rfl, rfl, (hroom g3).1, (hroom g3).2, am_pay hC' hy, List.mem_cons_self, hts _ (am_cw_in hy), hts _ g1, g2, am_npOf hq.1 rfl, hts _ (am_hx_mem hq.2.1)⟩, hts _ (am_hx_mem hq.2.2.1), hts _ (am_hx_mem hq.2.2.2)⟩ ⟨hS'.1, hrv, hS'.2⟩ rfl (hlen _ _ hdr) hsize (hstk _ _ hdr) (lv_room (by rw [am_cats_map]; exact hcat)) hdg hf)
                · cases hq
              · split at hq
                · split at hq
                  · rename_i r' o1 o2 x x' bb nn rt' e1 e2 e3
                    simp only [Bool.and_eq_true, decide_eq_true_eq] at hq
                    obtain ⟨⟨k1, k2, k3, k4⟩, k5, k6, k7, k8, k9⟩ := hq
                    subst k2
                    have hrv := va_recv (q := r') hK hP e1 (am_w_get hg).1
                    have hcx : (Cond.code x' bb nn rt').before args s = true := hts _ (List.mem_filter.mpr ⟨am_wd_mem e3, rfl⟩)
                    exact fin _ _ (va_runU (C := r'.1) (owner := x'.cls) (x := x') (n := a) (bytes := am_b y) (maxL := am_nl y) (ret := am_rt y) fix hM ⟨⟨rfl, rfl, (hroom g3).1, (hroom g3).2, am_pay hC' hy, List.mem_cons_self⟩, hts _ (am_cw_in hy), hts _ g1, ⟨k3, k4⟩, am_npOf k1 rfl, hts _ (am_hx_mem k5), hts _ (am_hx_mem k6), va_Decl.of (hts _ (am_hx_mem k7)) hcx, hts _ (am_hx_mem k9), hts _ (am_hx_mem k8)⟩ ⟨hS'.1, hrv, hS'.2⟩ rfl (hlen _ _ hdr) hsize (hstk _ _ hdr) (lv_room (by rw [am_cats_map]; exact hcat)) hdg hf)
                  · cases hq
                · split at hq
                  · rename_i h7
                    rw [decide_eq_true h7] at hv7
                    cases hv7
                  · cases hq
          · cases ht1
        · cases ht1
        · rcases tg with _ | ⟨q, tg'⟩
          · cases ht1
          · have ht1 : (bif decide (v = 7) && (Nat.blt 0 r0 && Nat.blt r0 7) then some (q.2, Value.ref r0 :: (st.take a).reverse, rest0) else none) = some (y, vs, rest) := ht1
            cases hv7 : (decide (v = 7) && (Nat.blt 0 r0 && Nat.blt r0 7)) with
            | false => rw [hv7] at ht1; cases ht1
            | true =>
              rw [hv7, cond_true] at ht1
              cases ht1
              rw [Bool.and_eq_true, Bool.and_eq_true, decide_eq_true_eq] at hv7
              obtain ⟨h7, h8, h9⟩ := hv7
              have h8 := Nat.blt_eq.mp h8
              have h9 := Nat.blt_eq.mp h9
              have hq := htg q List.mem_cons_self
              unfold am_okt at hq
              rw [Bool.and_eq_true] at hq
              obtain ⟨hy, hq⟩ := hq
              have hy := Nat.blt_eq.mp hy
              obtain ⟨g1, g2, g3, g4⟩ := am_mok_of hy
              have hq : am_okV own idx a v ps q.1 q.2 = true := hq
              unfold am_okV at hq
              rw [if_neg (by omega), if_neg (by omega), if_pos h7] at hq
              simp only [Bool.and_eq_true, decide_eq_true_eq] at hq
              have hrv : ∃ cell : Cell, H[am_ad b N0 sa r0]? = some cell ∧ cell.vm.isStatics = false ∧ s.vm.findClass "java/lang/String" = some cell.cls := by
                have had : am_ad b N0 sa r0 = sa (r0 - 1 + 1) := by
                  unfold am_ad
                  rw [if_neg (Nat.pos_iff_ne_zero.mp h8), if_pos (Nat.lt_of_lt_of_le h9 (by decide)), Nat.sub_add_cancel h8]
                rw [had]
                exact vk_recv (i := r0 - 1) hZ.2.2.1 (by omega) hS
              exact fin _ _ (va_runV (C := "java/lang/String") (n := a) (bytes := am_b q.2) (maxL := am_nl q.2) (ret := am_rt q.2) fix hM ⟨⟨rfl, rfl, (hroom g3).1, (hroom g3).2, am_pay hC' hy, List.mem_cons_self, hts _ (am_cw_in hy), hts _ g1, g2, am_npOf hq.1 rfl, hts _ (am_hx_mem hq.2.1)⟩, hts _ (am_hx_mem hq.2.2.1), hts _ (am_hx_mem hq.2.2.2)⟩ ⟨hS'.1, hrv, hS'.2⟩ rfl (hlen _ _ hdr) hsize (hstk _ _ hdr) (lv_room (by rw [am_cats_map]; exact hcat)) hdg hf)
    · cases ht1
  | _ => cases ht
end AMK
