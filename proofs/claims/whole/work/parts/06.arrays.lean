section AMU
variable {p : Program} {l : Launch} {e : Env} {R : Room} {s : State} {m : MethodId} {args : Array Value} {below : List Frame} {meth : Method} {c : Code} {Q : State → Prop}
variable {own yn : String} {cc : ByteArray} {nL : Nat} {D : va_G} {tc : Nat → Nat} {b N0 : Nat} {sa sv : Nat → Nat} {LL : Nat} {xs : Nat → Int32} {h0l sz0 pc : Nat} {L : am_L} {st : List Value} {h : am_H} {S : am_S} {ln a : Nat} {v : Int} {tg : List (Nat × Nat)} {ps : List Nat}
theorem am_ref0 {r : Nat} (hr : Nat.beq r 0 = true) : am_ad b N0 sa r = b := by
  have := Nat.eq_of_beq_eq_true hr
  subst this
  rfl
theorem am_xb {A : Nat → Prop} {U : State} {H : Heap} (hZ : am_Z b LL xs sa sv A U H) (hz : H.size = N0 + h0l) (hb : b < N0) : b < H.size := by omega
theorem am_ty0 {t : Nat} {ty : FieldType} (h : (am_tys tc)[t]? = some (tc t, ty)) : (am_tys tc)[t]? = some (tc t, ty) := h
theorem as_alen {r : Nat} (hC : am_C p s m args meth c own yn cc nL D tc b N0 sa sv LL xs h0l) (hdg : decode cc pc = .ok (.arraylength, 1))  (hs : am_step xs LL (.arraylength, 1, a, v, tg, ps) pc L (.ref r :: st) h = some S) (k : am_W p l e R s m args below meth c Q D tc (am_ad b N0 sa) N0 nL h0l sz0 S) : am_W p l e R s m args below meth c Q D tc (am_ad b N0 sa) N0 nL h0l sz0 (pc, L, .ref r :: st, h) := by
  intro H locs ls cells slots hP hz hS hL hc hsl
  obtain ⟨hx, hb, hml, hown, hts, hK, hZ, hH0, hbN, hnm⟩ := hC
  dsimp only at hP hz hL hc hsl ⊢
  dsimp only [am_step] at hs
  cases hr : Nat.beq r 0 with
  | true =>
    rw [hr, cond_true] at hs
    obtain rfl := Option.some.inj hs
    have k2 := k H locs ls cells slots hP hz hS hL hc hsl
    have hr0 := Nat.eq_of_beq_eq_true hr
    subst hr0
    exact va_slen (b := b) (L := LL) hx hb hZ.1 (by omega) (Nat.not_le.mpr hbN) hS hdg k2
  | false =>
    rw [hr, cond_false] at hs
    split at hs
    · rename_i t n x hg
      have g1 := (am_w_get (tc := tc) (ad := am_ad b N0 sa) hg).1
      have ht4 : t < 4 := by
        cases hb4 : Nat.blt t 4 with
        | true => exact Nat.blt_eq.mp hb4
        | false => rw [hb4] at hs; cases hs
      rw [show Nat.blt t 4 = true from Nat.blt_eq.mpr ht4, cond_true] at hs
      obtain rfl := Option.some.inj hs
      have k2 := k H locs ls cells slots hP hz hS hL hc hsl
      rcases (show t = 0 ∨ t = 1 ∨ t = 2 ∨ t = 3 by omega) with rfl | rfl | rfl | rfl <;> rcases x with f | f <;>
      first
        | exact va_alen (x := (n, .inl f)) hx hb hK hP (r - 14) 0 g1 (ty := .int) rfl rfl hdg k2
        | exact va_alen (x := (n, .inl f)) hx hb hK hP (r - 14) 1 g1 (ty := .boolean) rfl rfl hdg k2
        | exact va_alen (x := (n, .inl f)) hx hb hK hP (r - 14) 2 g1 (ty := .object RX2) rfl rfl hdg k2
        | exact va_alen (x := (n, .inl f)) hx hb hK hP (r - 14) 3 g1 (ty := .object RX8) rfl rfl hdg k2
        | exact va_alen (x := (n, .inr (.inr (.inr (.inr (fun j => (f j).map (am_ad b N0 sa))))))) hx hb hK hP (r - 14) 0 g1 (ty := .int) rfl rfl hdg k2
        | exact va_alen (x := (n, .inr (.inr (.inr (.inr (fun j => (f j).map (am_ad b N0 sa))))))) hx hb hK hP (r - 14) 1 g1 (ty := .boolean) rfl rfl hdg k2
        | exact va_alen (x := (n, .inr (.inr (.inr (.inr (fun j => (f j).map (am_ad b N0 sa))))))) hx hb hK hP (r - 14) 2 g1 (ty := .object RX2) rfl rfl hdg k2
        | exact va_alen (x := (n, .inr (.inr (.inr (.inr (fun j => (f j).map (am_ad b N0 sa))))))) hx hb hK hP (r - 14) 3 g1 (ty := .object RX8) rfl rfl hdg k2
    · cases hs
    · cases hv9 : (Nat.blt 6 r && Nat.blt r 13) with
      | false => rw [hv9] at hs; cases hs
      | true =>
        rw [hv9, cond_true] at hs
        rw [Bool.and_eq_true] at hv9
        obtain ⟨hr0, hr7⟩ := hv9
        have hr0 := Nat.blt_eq.mp hr0
        have hr7 := Nat.blt_eq.mp hr7
        have had : am_ad b N0 sa r = sa (r - 7 + 7) := by
          unfold am_ad
          rw [if_neg (by omega), if_pos (by omega), Nat.sub_add_cancel (by omega)]
        obtain ⟨-, -, -, e4⟩ := hZ.2.2.1.1 (r - 7) (by omega)
        obtain rfl := Option.some.inj hs
        show W p l e R s m args below meth c H locs cells slots Q (F0 m pc ls (.ref (am_ad b N0 sa r) :: st.map (am_v (am_ad b N0 sa))))
        rw [had]
        exact va_tlen hx hb e4 hS rfl hdg (k H locs ls cells slots hP hz hS hL hc hsl)
theorem as_iald {r : Nat} {j : Int32} (hC : am_C p s m args meth c own yn cc nL D tc b N0 sa sv LL xs h0l) (hdg : decode cc pc = .ok (.iaload, 1))  (hs : am_step xs LL (.iaload, 1, a, v, tg, ps) pc L (.int j :: .ref r :: st) h = some S) (k : am_W p l e R s m args below meth c Q D tc (am_ad b N0 sa) N0 nL h0l sz0 S) : am_W p l e R s m args below meth c Q D tc (am_ad b N0 sa) N0 nL h0l sz0 (pc, L, .int j :: .ref r :: st, h) := by
  intro H locs ls cells slots hP hz hS hL hc hsl
  obtain ⟨hx, hb, hml, hown, hts, hK, hZ, hH0, hbN, hnm⟩ := hC
  dsimp only at hP hz hL hc hsl ⊢
  dsimp only [am_step] at hs
  cases hr : Nat.beq r 0 with
  | true =>
    rw [hr, cond_true] at hs
    split at hs
    · cases hs
    · rename_i hin
      obtain rfl := Option.some.inj hs
      have k2 := k H locs ls cells slots hP hz hS hL hc hsl
      have hr0 := Nat.eq_of_beq_eq_true hr
      subst hr0
      exact va_sld (b := b) (L := LL) hx hb hZ.1 (by omega) (Nat.not_le.mpr hbN) hS hin hdg k2
  | false =>
    rw [hr, cond_false] at hs
    split at hs
    · rename_i n f hg
      split at hs
      · cases hs
      · rename_i hin
        obtain rfl := Option.some.inj hs
        exact va_iald hx hb hK hP (r - 14) 0 (am_w_get hg).1 rfl hin hdg (k H locs ls cells slots hP hz hS hL hc hsl)
    · cases hs
theorem as_bald {r : Nat} {j : Int32} (hC : am_C p s m args meth c own yn cc nL D tc b N0 sa sv LL xs h0l) (hdg : decode cc pc = .ok (.baload, 1))  (hs : am_step xs LL (.baload, 1, a, v, tg, ps) pc L (.int j :: .ref r :: st) h = some S) (k : am_W p l e R s m args below meth c Q D tc (am_ad b N0 sa) N0 nL h0l sz0 S) : am_W p l e R s m args below meth c Q D tc (am_ad b N0 sa) N0 nL h0l sz0 (pc, L, .int j :: .ref r :: st, h) := by
  intro H locs ls cells slots hP hz hS hL hc hsl
  obtain ⟨hx, hb, hml, hown, hts, hK, hZ, hH0, hbN, hnm⟩ := hC
  dsimp only at hP hz hL hc hsl ⊢
  dsimp only [am_step] at hs
  split at hs
  · rename_i n f hg
    split at hs
    · cases hs
    · rename_i hin
      obtain rfl := Option.some.inj hs
      exact va_zald hx hb hK hP (r - 14) 1 (am_w_get hg).1 rfl hin hdg (k H locs ls cells slots hP hz hS hL hc hsl)
  · cases hv9 : (Nat.blt 6 r && Nat.blt r 13) with
    | false => rw [hv9] at hs; cases hs
    | true =>
      rw [hv9, cond_true] at hs
      rw [Bool.and_eq_true] at hv9
      obtain ⟨hr0, hr7⟩ := hv9
      have hr0 := Nat.blt_eq.mp hr0
      have hr7 := Nat.blt_eq.mp hr7
      have had : am_ad b N0 sa r = sa (r - 7 + 7) := by
        unfold am_ad
        rw [if_neg (by omega), if_pos (by omega), Nat.sub_add_cancel (by omega)]
      obtain ⟨-, -, -, e4⟩ := hZ.2.2.1.1 (r - 7) (by omega)
      split at hs
      · cases hs
      · rename_i hin
        obtain rfl := Option.some.inj hs
        show W p l e R s m args below meth c H locs cells slots Q (F0 m pc ls (.int j :: .ref (am_ad b N0 sa r) :: st.map (am_v (am_ad b N0 sa))))
        rw [had]
        exact va_tb hx hb e4 hS hin rfl hdg (k H locs ls cells slots hP hz hS hL hc hsl)
  · cases hs
theorem am_rf {ad : Nat → Nat} (o : Option Nat) : va_rf (o.map ad) = am_v ad (va_rf o) := by cases o <;> rfl
theorem as_aald {r : Nat} {j : Int32} (hC : am_C p s m args meth c own yn cc nL D tc b N0 sa sv LL xs h0l) (hdg : decode cc pc = .ok (.aaload, 1))  (hs : am_step xs LL (.aaload, 1, a, v, tg, ps) pc L (.int j :: .ref r :: st) h = some S) (k : am_W p l e R s m args below meth c Q D tc (am_ad b N0 sa) N0 nL h0l sz0 S) : am_W p l e R s m args below meth c Q D tc (am_ad b N0 sa) N0 nL h0l sz0 (pc, L, .int j :: .ref r :: st, h) := by
  intro H locs ls cells slots hP hz hS hL hc hsl
  obtain ⟨hx, hb, hml, hown, hts, hK, hZ, hH0, hbN, hnm⟩ := hC
  dsimp only at hP hz hL hc hsl ⊢
  dsimp only [am_step] at hs
  split at hs
  · rename_i n f hg
    split at hs
    · cases hs
    · rename_i hin
      obtain rfl := Option.some.inj hs
      refine va_aldq hx hb hK hP (r - 14) 2 (am_w_get hg).1 rfl hin hdg ?_
      have k2 := k H locs ls cells slots hP hz hS hL hc hsl
      dsimp only [List.map_cons] at k2
      rw [am_rf]
      exact k2
  · rename_i n f hg
    split at hs
    · cases hs
    · rename_i hin
      obtain rfl := Option.some.inj hs
      refine va_aldq hx hb hK hP (r - 14) 3 (am_w_get hg).1 rfl hin hdg ?_
      have k2 := k H locs ls cells slots hP hz hS hL hc hsl
      dsimp only [List.map_cons] at k2
      rw [am_rf]
      exact k2
  · cases hs
theorem as_iast {r : Nat} {j x : Int32} (hC : am_C p s m args meth c own yn cc nL D tc b N0 sa sv LL xs h0l) (hdg : decode cc pc = .ok (.iastore, 1))  (hs : am_step xs LL (.iastore, 1, a, v, tg, ps) pc L (.int x :: .int j :: .ref r :: st) h = some S) (k : am_W p l e R s m args below meth c Q D tc (am_ad b N0 sa) N0 nL h0l sz0 S) : am_W p l e R s m args below meth c Q D tc (am_ad b N0 sa) N0 nL h0l sz0 (pc, L, .int x :: .int j :: .ref r :: st, h) := by
  intro H locs ls cells slots hP hz hS hL hc hsl
  obtain ⟨hx, hb, hml, hown, hts, hK, hZ, hH0, hbN, hnm⟩ := hC
  dsimp only at hP hz hL hc hsl ⊢
  dsimp only [am_step] at hs
  split at hs
  · rename_i n f hg
    split at hs
    · cases hs
    · rename_i hin
      obtain rfl := Option.some.inj hs
      obtain ⟨g1, h7, -⟩ := am_w_get (tc := tc) (ad := am_ad b N0 sa) hg
      have hS' : va_S (fun q => N0 ≤ q) H H locs := ⟨Nat.le_refl _, fun _ _ _ => rfl, hS.2.2⟩
      refine va_iast hx hb hK hP am_w_D hS' (r - 14) 0 g1 rfl hin hdg (fun H1 locs1 hP1 _ hS1 => am_sized fun hz1 => k H1 locs1 ls cells slots ?_ ?_ (am_St hS hS1) hL ?_ ?_)
      · rw [am_w_put h7]
        exact hP1
      · have := hS1.1
        dsimp only
        rw [am_put_len]
        omega
      · dsimp only; rw [am_put_len]; exact hc
      · dsimp only; rw [am_put_sz hg (by simp [am_sz1])]; exact hsl
  · cases hs
theorem as_bast {r : Nat} {j x : Int32} (hC : am_C p s m args meth c own yn cc nL D tc b N0 sa sv LL xs h0l) (hdg : decode cc pc = .ok (.bastore, 1))  (hs : am_step xs LL (.bastore, 1, a, v, tg, ps) pc L (.int x :: .int j :: .ref r :: st) h = some S) (k : am_W p l e R s m args below meth c Q D tc (am_ad b N0 sa) N0 nL h0l sz0 S) : am_W p l e R s m args below meth c Q D tc (am_ad b N0 sa) N0 nL h0l sz0 (pc, L, .int x :: .int j :: .ref r :: st, h) := by
  intro H locs ls cells slots hP hz hS hL hc hsl
  obtain ⟨hx, hb, hml, hown, hts, hK, hZ, hH0, hbN, hnm⟩ := hC
  dsimp only at hP hz hL hc hsl ⊢
  dsimp only [am_step] at hs
  split at hs
  · rename_i n f hg
    split at hs
    · cases hs
    · rename_i hin
      obtain rfl := Option.some.inj hs
      obtain ⟨g1, h7, -⟩ := am_w_get (tc := tc) (ad := am_ad b N0 sa) hg
      have hS' : va_S (fun q => N0 ≤ q) H H locs := ⟨Nat.le_refl _, fun _ _ _ => rfl, hS.2.2⟩
      refine va_zast hx hb hK hP am_w_D hS' (r - 14) 1 g1 rfl hin hdg (fun H1 locs1 hP1 _ hS1 => am_sized fun hz1 => k H1 locs1 ls cells slots ?_ ?_ (am_St hS hS1) hL ?_ ?_)
      · rw [am_w_put h7]
        exact hP1
      · have := hS1.1
        dsimp only
        rw [am_put_len]
        omega
      · dsimp only; rw [am_put_len]; exact hc
      · dsimp only; rw [am_put_sz hg (by simp [am_sz1])]; exact hsl
  · cases hs
theorem am_up_map {ad : Nat → Nat} (f : Nat → Option Nat) (j q : Nat) : (fun i => (va_up f j (some q) i).map ad) = va_up (fun i => (f i).map ad) j (some (ad q)) := by
  funext i
  unfold va_up
  split <;> rfl
def am_asc (ci t : Nat) : Prop := ∃ r0 : vw_C, vwCl[ci]? = some r0 ∧ (r0.1 = (if t = 2 then RX2 else RX8) ∨ Cond.castable r0.1 (if t = 2 then RX2 else RX8) ∈ am_stk)
theorem as_aast {r q : Nat} {j : Int32} (hC : am_C p s m args meth c own yn cc nL D tc b N0 sa sv LL xs h0l) (hdg : decode cc pc = .ok (.aastore, 1)) (hf : ∀ q ∈ tg, am_asc q.1 q.2) (hs : am_step xs LL (.aastore, 1, a, v, tg, ps) pc L (.ref q :: .int j :: .ref r :: st) h = some S) (k : am_W p l e R s m args below meth c Q D tc (am_ad b N0 sa) N0 nL h0l sz0 S) : am_W p l e R s m args below meth c Q D tc (am_ad b N0 sa) N0 nL h0l sz0 (pc, L, .ref q :: .int j :: .ref r :: st, h) := by
  intro H locs ls cells slots hP hz hS hL hc hsl
  obtain ⟨hx, hb, hml, hown, hts, hK, hZ, hH0, hbN, hnm⟩ := hC
  dsimp only at hP hz hL hc hsl ⊢
  dsimp only [am_step] at hs
  split at hs
  · rename_i n f ci fs hg hq
    split at hs
    · rename_i hlk
      split at hs
      · cases hs
      · rename_i hin
        obtain rfl := Option.some.inj hs
        obtain ⟨r0, e1, e2⟩ := hf (ci, 2) (am_look_mem hlk)
        obtain ⟨g1, h7, -⟩ := am_w_get (tc := tc) (ad := am_ad b N0 sa) hg
        have hS' : va_S (fun q => N0 ≤ q) H H locs := ⟨Nat.le_refl _, fun _ _ _ => rfl, hS.2.2⟩
        have key : ∀ (H1 : Heap) (locs1 : List Loc), va_P D vwCl ((am_w tc (am_ad b N0 sa) h).set (r - 14) (am_ad b N0 sa r, .inl (tc 2, n, .inr (.inr (.inr (.inr (va_up (fun i => (f i).map (am_ad b N0 sa)) j.toNatClampNeg (some (am_ad b N0 sa q))))))))) H1 → va_S (fun q => N0 ≤ q) H H1 locs1 → W p l e R s m args below meth c H1 locs1 cells slots Q (F0 m (pc + 1) ls (st.map (am_v (am_ad b N0 sa)))) := by
          intro H1 locs1 hP1 hS1
          refine am_sized fun hz1 => k H1 locs1 ls cells slots ?_ ?_ (am_St hS hS1) hL ?_ ?_
          · rw [am_w_put h7]
            show va_P D vwCl (List.set _ _ (_, .inl (_, _, .inr (.inr (.inr (.inr (fun i => (va_up f j.toNatClampNeg (some q) i).map (am_ad b N0 sa)))))))) H1
            rw [am_up_map]
            exact hP1
          · have := hS1.1
            dsimp only
            rw [am_put_len]
            omega
          · dsimp only; rw [am_put_len]; exact hc
          · dsimp only; rw [am_put_sz hg (by simp [am_sz1])]; exact hsl
        rcases e2 with e2 | e2
        · exact va_astq (r := r0) hx hb hK hP am_w_D hS' (r - 14) 2 (q - 14) ci g1 (by rw [show r0.1 = RX2 from e2]; rfl) (am_w_get hq).1 e1 hin hdg (fun H1 locs1 hP1 _ hS1 => key H1 locs1 hP1 hS1)
        · exact va_astqO (r := r0) (E := RX2) hx hb hK hP am_w_D hS' (r - 14) 2 (q - 14) ci g1 rfl (hZ.2.2.2.2.2 _ e2) (am_w_get hq).1 e1 hin hdg (fun H1 locs1 hP1 _ hS1 => key H1 locs1 hP1 hS1)
    · cases hs
  · rename_i n f ci fs hg hq
    split at hs
    · rename_i hlk
      split at hs
      · cases hs
      · rename_i hin
        obtain rfl := Option.some.inj hs
        obtain ⟨r0, e1, e2⟩ := hf (ci, 3) (am_look_mem hlk)
        obtain ⟨g1, h7, -⟩ := am_w_get (tc := tc) (ad := am_ad b N0 sa) hg
        have hS' : va_S (fun q => N0 ≤ q) H H locs := ⟨Nat.le_refl _, fun _ _ _ => rfl, hS.2.2⟩
        have key : ∀ (H1 : Heap) (locs1 : List Loc), va_P D vwCl ((am_w tc (am_ad b N0 sa) h).set (r - 14) (am_ad b N0 sa r, .inl (tc 3, n, .inr (.inr (.inr (.inr (va_up (fun i => (f i).map (am_ad b N0 sa)) j.toNatClampNeg (some (am_ad b N0 sa q))))))))) H1 → va_S (fun q => N0 ≤ q) H H1 locs1 → W p l e R s m args below meth c H1 locs1 cells slots Q (F0 m (pc + 1) ls (st.map (am_v (am_ad b N0 sa)))) := by
          intro H1 locs1 hP1 hS1
          refine am_sized fun hz1 => k H1 locs1 ls cells slots ?_ ?_ (am_St hS hS1) hL ?_ ?_
          · rw [am_w_put h7]
            show va_P D vwCl (List.set _ _ (_, .inl (_, _, .inr (.inr (.inr (.inr (fun i => (va_up f j.toNatClampNeg (some q) i).map (am_ad b N0 sa)))))))) H1
            rw [am_up_map]
            exact hP1
          · have := hS1.1
            dsimp only
            rw [am_put_len]
            omega
          · dsimp only; rw [am_put_len]; exact hc
          · dsimp only; rw [am_put_sz hg (by simp [am_sz1])]; exact hsl
        rcases e2 with e2 | e2
        · exact va_astq (r := r0) hx hb hK hP am_w_D hS' (r - 14) 3 (q - 14) ci g1 (by rw [show r0.1 = RX8 from e2]; rfl) (am_w_get hq).1 e1 hin hdg (fun H1 locs1 hP1 _ hS1 => key H1 locs1 hP1 hS1)
        · exact va_astqO (r := r0) (E := RX8) hx hb hK hP am_w_D hS' (r - 14) 3 (q - 14) ci g1 rfl (hZ.2.2.2.2.2 _ e2) (am_w_get hq).1 e1 hin hdg (fun H1 locs1 hP1 _ hS1 => key H1 locs1 hP1 hS1)
    · cases hs
  · cases hs
end AMU
