section AMT
variable {p : Program} {l : Launch} {e : Env} {R : Room} {s : State} {m : MethodId} {args : Array Value} {below : List Frame} {meth : Method} {c : Code} {Q : State → Prop}
variable {own yn : String} {cc : ByteArray} {nL : Nat} {D : va_G} {tc : Nat → Nat} {b N0 : Nat} {sa sv : Nat → Nat} {LL : Nat} {xs : Nat → Int32} {h0l sz0 pc : Nat} {L : am_L} {st : List Value} {h : am_H} {S : am_S} {ln a : Nat} {v : Int} {tg : List (Nat × Nat)} {ps : List Nat}
theorem as_tsw {x : Int32} {d lo hi : Int} {offs : Array Int} {len : Nat} (hC : am_C p s m args meth c own yn cc nL D tc b N0 sa sv LL xs h0l) (hdg : decode cc pc = .ok (.tableswitch d lo hi offs, len)) (hd : 0 ≤ d) (ho : ∀ o ∈ offs, (0 : Int) ≤ o) (hn : hi - lo < (offs.size : Int)) (hs : am_step xs LL (.tableswitch d lo hi offs, len, a, v, tg, ps) pc L (.int x :: st) h = some S) (k : am_W p l e R s m args below meth c Q D tc (am_ad b N0 sa) N0 nL h0l sz0 S) : am_W p l e R s m args below meth c Q D tc (am_ad b N0 sa) N0 nL h0l sz0 (pc, L, .int x :: st, h) := by
  intro H locs ls cells slots hP hz hS hL hc hsl
  obtain ⟨hx, hb, hml, hown, hts, hK, hZ, hH0, hbN, hnm⟩ := hC
  dsimp only at hP hz hL hc hsl ⊢
  obtain rfl := Option.some.inj hs
  have k2 := k H locs ls cells slots hP hz hS hL hc hsl
  dsimp only at k2
  by_cases hr : x.toInt < lo ∨ hi < x.toInt
  · rw [if_pos hr] at k2
    exact lv_tableOut (tgt := pc + d.toNat) hx hb hdg hr (by omega) k2
  · rw [if_neg hr] at k2
    have h1 : ¬ x.toInt < lo := fun q => hr (Or.inl q)
    have h2 : ¬ hi < x.toInt := fun q => hr (Or.inr q)
    have hlt : (x.toInt - lo).toNat < offs.size := by omega
    have hg : offs.getD (x.toInt - lo).toNat 0 = offs[(x.toInt - lo).toNat] := by simp [Array.getD, hlt]
    rw [hg] at k2
    have h0 := ho _ (Array.getElem_mem hlt)
    exact lv_tableIn (tgt := pc + (offs[(x.toInt - lo).toNat]).toNat) hx hb hdg h1 h2 (Array.getElem?_eq_getElem hlt) (by omega) k2
theorem as_lsw {x : Int32} {d : Int} {qs : Array (Int × Int)} {len : Nat} (hC : am_C p s m args meth c own yn cc nL D tc b N0 sa sv LL xs h0l) (hdg : decode cc pc = .ok (.lookupswitch d qs, len)) (hp : (qs.toList.zip (qs.toList.drop 1)).all (fun (a, next) => a.1 < next.1) = true) (hn : ∀ z : Int, 0 ≤ Op.lookupswitch.offset qs.toList d z) (hs : am_step xs LL (.lookupswitch d qs, len, a, v, tg, ps) pc L (.int x :: st) h = some S) (k : am_W p l e R s m args below meth c Q D tc (am_ad b N0 sa) N0 nL h0l sz0 S) : am_W p l e R s m args below meth c Q D tc (am_ad b N0 sa) N0 nL h0l sz0 (pc, L, .int x :: st, h) := by
  intro H locs ls cells slots hP hz hS hL hc hsl
  obtain ⟨hx, hb, hml, hown, hts, hK, hZ, hH0, hbN, hnm⟩ := hC
  dsimp only at hP hz hL hc hsl ⊢
  obtain rfl := Option.some.inj hs
  exact lv_lookup hx hb hdg hp rfl (by have := hn x.toInt; omega) (k H locs ls cells slots hP hz hS hL hc hsl)
/-- a field's link, and that it is this place of an object of that class -/
def am_fld (own : String) (idx k ci : Nat) : Prop := ∃ (C : String) (T : u_T) (N : Nat) (ref : String), vwCl[ci]? = some (C, T, N) ∧ k < N ∧ Cond.fieldLink own idx ref (T k).2.1 (T k).2.2.1 ∈ am_tbl ∧ (ref = (T k).1 ∨ Cond.sameField ref (T k).1 (T k).2.1 (T k).2.2.1 ∈ am_tbl)
def am_pfd (own yn : String) (v : Int) (k ci : Nat) : Prop := ∃ (C : String) (T : u_T) (N : Nat), vwCl[ci]? = some (C, T, N) ∧ ((T k).2.2.2 = false ∨ ((T k).2.2.2 = true ∧ yn = "<init>" ∧ (T k).1 = own)) ∧ ((v = 0 ∧ am_ty ci k = .int) ∨ (v = 1 ∧ am_ty ci k = .boolean) ∨ (v = 2 ∧ ((∃ n, am_ty ci k = .object n) ∨ ∃ t, am_ty ci k = .array t)))
theorem am_look_mem {tg : List (Nat × Nat)} {k q : Nat} (h : am_look tg k = some q) : (k, q) ∈ tg := by
  induction tg with
  | nil => cases h
  | cons x t ih =>
    obtain ⟨a, b⟩ := x
    unfold am_look at h
    cases hb : Nat.beq a k with
    | true =>
      rw [hb, cond_true] at h
      cases h
      have := Nat.eq_of_beq_eq_true hb
      subst this
      exact List.mem_cons_self
    | false => rw [hb, cond_false] at h; exact List.mem_cons_of_mem _ (ih h)
theorem am_same {ref owner name desc : String} (hts : ∀ w ∈ am_tbl, w.before args s = true) (h : ref = owner ∨ Cond.sameField ref owner name desc ∈ am_tbl) : ∀ x, s.fieldFound? owner name desc = some x → s.fieldFound? ref name desc = some x := by
  intro x hx
  rcases h with rfl | h
  · exact hx
  · exact u_same (hts _ h) x hx
theorem am_fitOk {v : Int} {w : Value} {ci k : Nat} {ad : Nat → Nat} (hf : am_fit v w = true) (ht : (v = 0 ∧ am_ty ci k = .int) ∨ (v = 1 ∧ am_ty ci k = .boolean) ∨ (v = 2 ∧ ((∃ n, am_ty ci k = .object n) ∨ ∃ t, am_ty ci k = .array t))) : narrow (am_ty ci k) (am_v ad w) = am_v ad w ∧ fits (am_ty ci k) (am_v ad w) = true := by
  rcases ht with ⟨rfl, h⟩ | ⟨rfl, h⟩ | ⟨rfl, ⟨n, h⟩ | ⟨n, h⟩⟩ <;> rw [h] <;> cases w <;> first | exact ⟨rfl, rfl⟩ | (cases hf; done) | skip
  · rename_i x
    simp only [am_fit, Bool.or_eq_true, beq_iff_eq] at hf
    rcases hf with rfl | rfl <;> exact ⟨rfl, rfl⟩
theorem as_getf {idx r : Nat} (hC : am_C p s m args meth c own yn cc nL D tc b N0 sa sv LL xs h0l) (hdg : decode cc pc = .ok (.getfield idx, 3)) (hf : ∀ q ∈ tg, am_fld own idx a q.1) (hf9 : v = 9 → (a = 0 ∧ Cond.fieldLink own idx "java/lang/String" "value" "[B" ∈ am_tbl) ∨ (a = 1 ∧ Cond.fieldLink own idx "java/lang/String" "coder" "B" ∈ am_tbl)) (hs : am_step xs LL (.getfield idx, 3, a, v, tg, ps) pc L (.ref r :: st) h = some S) (k : am_W p l e R s m args below meth c Q D tc (am_ad b N0 sa) N0 nL h0l sz0 S) : am_W p l e R s m args below meth c Q D tc (am_ad b N0 sa) N0 nL h0l sz0 (pc, L, .ref r :: st, h) := by
  intro H locs ls cells slots hP hz hS hL hc hsl
  obtain ⟨hx, hb, hml, hown, hts, hK, hZ, hH0, hbN, hnm⟩ := hC
  dsimp only at hP hz hL hc hsl ⊢
  dsimp only [am_step] at hs
  split at hs
  · rename_i ci fs hg
    split at hs
    · rename_i q w h1 h2
      obtain rfl := Option.some.inj hs
      obtain ⟨C, T, N, ref, e1, e2, e3, e4⟩ := hf (ci, q) (am_look_mem h1)
      exact va_get (C := C) (T := T) (N := N) (v := am_v (am_ad b N0 sa) w) hx hb hts (am_cl_in ci _ e1) hown hK hP (r - 14) (am_w_get hg).1 e1 a e2 (hts _ e3) (am_same hts e4) (by rw [List.getElem?_map, h2]; rfl) hdg (k H locs ls cells slots hP hz hS hL hc hsl)
    · cases hs
  · cases hs
  · cases hv9 : (decide (v = 9) && (Nat.blt 0 r && Nat.blt r 7)) with
    | false => rw [hv9] at hs; cases hs
    | true =>
      rw [hv9, cond_true] at hs
      rw [Bool.and_eq_true, Bool.and_eq_true, decide_eq_true_eq] at hv9
      obtain ⟨h9, hr0, hr7⟩ := hv9
      have hr0 := Nat.blt_eq.mp hr0
      have hr7 := Nat.blt_eq.mp hr7
      have had : am_ad b N0 sa r = sa (r - 1 + 1) := by
        unfold am_ad
        rw [if_neg (Nat.pos_iff_ne_zero.mp hr0), if_pos (by omega), Nat.sub_add_cancel hr0]
      obtain ⟨-, e2, e3, -⟩ := hZ.2.2.1.1 (r - 1) (by omega)
      rcases hf9 h9 with ⟨ha, hw⟩ | ⟨ha, hw⟩
      · subst ha
        rw [show Nat.beq 0 0 = true from rfl, cond_true] at hs
        obtain rfl := Option.some.inj hs
        have hq : am_ad b N0 sa (r + 6) = sa (r - 1 + 7) := by
          unfold am_ad
          rw [if_neg (by omega), if_pos (by omega), show r + 6 = r - 1 + 7 by omega]
        show W p l e R s m args below meth c H locs cells slots Q (F0 m pc ls (.ref (am_ad b N0 sa r) :: st.map (am_v (am_ad b N0 sa))))
        rw [had]
        refine vk_getf hx hb e3 hS hown (hts _ hw) (fun _ z => z) hdg ?_
        have k2 := k H locs ls cells slots hP hz hS hL hc hsl
        have k3 : W p l e R s m args below meth c H locs cells slots Q (F0 m (pc + 3) ls (.ref (am_ad b N0 sa (r + 6)) :: st.map (am_v (am_ad b N0 sa)))) := k2
        rw [hq] at k3
        exact k3
      · subst ha
        rw [show Nat.beq 1 0 = false from rfl, cond_false] at hs
        obtain rfl := Option.some.inj hs
        show W p l e R s m args below meth c H locs cells slots Q (F0 m pc ls (.ref (am_ad b N0 sa r) :: st.map (am_v (am_ad b N0 sa))))
        rw [had]
        exact vk_getf hx hb e2 hS hown (hts _ hw) (fun _ z => z) hdg (k H locs ls cells slots hP hz hS hL hc hsl)
theorem as_putf {idx r : Nat} {w : Value} (hC : am_C p s m args meth c own yn cc nL D tc b N0 sa sv LL xs h0l) (hdg : decode cc pc = .ok (.putfield idx, 3)) (hf : ∀ q ∈ tg, am_fld own idx a q.1) (hf2 : ∀ q ∈ tg, am_pfd own yn v a q.1) (hs : am_step xs LL (.putfield idx, 3, a, v, tg, ps) pc L (w :: .ref r :: st) h = some S) (k : am_W p l e R s m args below meth c Q D tc (am_ad b N0 sa) N0 nL h0l sz0 S) : am_W p l e R s m args below meth c Q D tc (am_ad b N0 sa) N0 nL h0l sz0 (pc, L, w :: .ref r :: st, h) := by
  intro H locs ls cells slots hP hz hS hL hc hsl
  obtain ⟨hx, hb, hml, hown, hts, hK, hZ, hH0, hbN, hnm⟩ := hC
  dsimp only at hP hz hL hc hsl ⊢
  dsimp only [am_step] at hs
  split at hs
  · rename_i ci fs hg
    split at hs
    · rename_i q w0 h1 h2 h3
      obtain rfl := Option.some.inj hs
      obtain ⟨C, T, N, ref, e1, e2, e3, e4⟩ := hf (ci, q) (am_look_mem h1)
      obtain ⟨C', T', N', e1', e5, e6⟩ := hf2 (ci, q) (am_look_mem h1)
      cases e1.symm.trans e1'
      obtain ⟨g1, h7, -⟩ := am_w_get (tc := tc) (ad := am_ad b N0 sa) hg
      obtain ⟨f1, f2⟩ := am_fitOk (ad := am_ad b N0 sa) h3 e6
      have hl2 : a < fs.length := (List.getElem?_eq_some_iff.mp h2).1
      have fin : ∀ (H1 : Heap) (locs1 : List Loc), va_P D vwCl ((am_w tc (am_ad b N0 sa) h).set (r - 14) (am_ad b N0 sa r, .inr (ci, (fs.map (am_v (am_ad b N0 sa))).set a (am_v (am_ad b N0 sa) w)))) H1 → va_S (fun q => N0 ≤ q) H H1 locs1 → W p l e R s m args below meth c H1 locs1 cells slots Q (F0 m (pc + 3) ls (st.map (am_v (am_ad b N0 sa)))) := by
        intro H1 locs1 hP1 hS1
        refine am_sized fun hz1 => k H1 locs1 ls cells slots ?_ ?_ (am_St hS hS1) hL ?_ ?_
        · rw [am_w_put h7]
          simpa only [am_e, List.map_set] using hP1
        · have := hS1.1
          dsimp only
          rw [am_put_len]
          omega
        · dsimp only; rw [am_put_len]; exact hc
        · dsimp only; rw [am_put_sz hg (by simp [am_sz1])]; exact hsl
      have hS' : va_S (fun q => N0 ≤ q) H H locs := ⟨Nat.le_refl _, fun _ _ _ => rfl, hS.2.2⟩
      rcases e5 with e5 | ⟨e8, e5, e7⟩
      · exact va_put (C := C) (T := T) (N := N) hx hb hts (am_cl_in ci _ e1) (am_ty ci) (am_cl_ty ci _ e1) (am_cl_nm ci _ e1) hown hK hP am_w_D hS' (r - 14) g1 e1 a e2 (hts _ e3) (am_same hts e4) e5 (am_cl_ty ci _ e1 a e2) f1 f2 (by rw [List.length_map]; exact hl2) hdg (fun H1 locs1 hP1 _ hS1 => fin H1 locs1 hP1 hS1)
      · exact va_putF (C := C) (T := T) (N := N) hx hb hts (am_cl_in ci _ e1) (am_ty ci) (am_cl_ty ci _ e1) (am_cl_nm ci _ e1) hown hK hP am_w_D hS' (r - 14) g1 e1 a e2 (hts _ e3) (am_same hts e4) e8 (hnm e5) e7 (am_cl_ty ci _ e1 a e2) f1 f2 (by rw [List.length_map]; exact hl2) hdg (fun H1 locs1 hP1 _ hS1 => fin H1 locs1 hP1 hS1)
    · cases hs
  · cases hs
end AMT
