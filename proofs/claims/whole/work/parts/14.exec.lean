/-! a run of the pure machine is the machine's -/
def am_chk (own yn : String) (cc : ByteArray) (nL : Nat) (rt : Option FieldType) (pc : Nat) (en : am_En) : Bool := decide (decode cc pc = .ok (en.1, en.2.1)) && (match am_kd en with
  | 0 => am_ok own yn nL pc en
  | 1 => am_okc own en
  | _ => am_okr rt en)
def am_KM (l : Launch) (D : va_G) (tc : Nat → Nat) (b N0 : Nat) (sa sv : Nat → Nat) (LL : Nat) (xs : Nat → Int32) (d : Nat) (y : Nat) (vs : List Value) (h : am_H) (v : Option Value) (h1 : am_H) : Prop :=
  am_le h h1 ∧ Met l (am_y y) (am_ws y) (am_rm d (h1.length - h.length) (am_sz h1 - am_sz h)) (am_Pc D tc b N0 sa sv LL xs vs h) (am_Qc D tc b N0 sa v h1) (h1.length - h.length) (am_sz h1 - am_sz h) (fun q => N0 ≤ q)
section AMR
variable {p : Program} {l : Launch} {e : Env} {R : Room} {s : State} {m : MethodId} {args : Array Value} {below : List Frame} {meth : Method} {c : Code} {Q : State → Prop}
variable {own yn : String} {cc : ByteArray} {nL : Nat} {D : va_G} {tc : Nat → Nat} {b N0 : Nat} {sa sv : Nat → Nat} {LL : Nat} {xs : Nat → Int32} {h0l sz0 : Nat} {rt : Option FieldType} {C : Nat → Option am_En} {K : Nat → List Value → am_H → Option Value → am_H → Prop} {d : Nat} {r : Option Value} {h' : am_H}
theorem am_run_ok (hC : am_C p s m args meth c own yn cc nL D tc b N0 sa sv LL xs h0l) (hchk : ∀ pc en, C pc = some en → am_chk own yn cc nL rt pc en = true) (hK : ∀ y vs h v h1, K y vs h v h1 → am_KM l D tc b N0 sa sv LL xs d y vs h v h1)
    (hR : d + 1 ≤ R.frames ∧ 38 * (d + 1) ≤ R.locals) (hRc : h'.length ≤ h0l + R.cells) (hRs : am_sz h' ≤ sz0 + R.slots)
    (hret : ∀ pc L st en, C pc = some en → am_okr rt en = true → decode cc pc = .ok (en.1, en.2.1) → am_ret en st = some r → am_W p l e R s m args below meth c Q D tc (am_ad b N0 sa) N0 nL h0l sz0 (pc, L, st, h')) :
    ∀ (f pc : Nat) (L : am_L) (st : List Value) (h : am_H), am_Run xs LL C K f pc L st h r h' → am_W p l e R s m args below meth c Q D tc (am_ad b N0 sa) N0 nL h0l sz0 (pc, L, st, h) := by
  have hKle : ∀ y vs h v h1, K y vs h v h1 → am_le h h1 := fun y vs h v h1 q => (hK y vs h v h1 q).1
  intro f
  induction f with
  | zero => intro pc L st h hr; exact hr.elim
  | succ f ih =>
    intro pc L st h hr
    obtain ⟨en, hen, hr⟩ := hr
    have h1 := hchk pc en hen
    unfold am_chk at h1
    rw [Bool.and_eq_true, decide_eq_true_eq] at h1
    obtain ⟨hd, h1⟩ := h1
    split at hr
    · rename_i hk0
      rw [hk0] at h1
      obtain ⟨S, h2, h3⟩ := hr
      have hle := am_Run_le hKle _ _ _ _ _ _ _ h3
      exact am_step_ok en hC h1 hd ⟨by omega, by omega⟩ (Nat.le_trans hle.1 hRc) (Nat.le_trans hle.2 hRs) h2 (ih _ _ _ _ h3)
    · rename_i hk1
      rw [hk1] at h1
      obtain ⟨y, vs, rest, v, h1', h2, h3, h4⟩ := hr
      have hle := am_Run_le hKle _ _ _ _ _ _ _ h4
      obtain ⟨g1, g2⟩ := hK _ _ _ _ _ h3
      have g3 := g1.1
      have g4 := g1.2
      exact am_call_ok en hC h1 hd hR h2 g2 (by omega) (by omega) (Nat.le_trans hle.1 hRc) (Nat.le_trans hle.2 hRs) (ih _ _ _ _ h4)
    · rename_i hk0 hk1
      obtain ⟨h2, rfl⟩ := hr
      have h3 : am_okr rt en = true := by
        split at h1
        · rename_i q; exact absurd q hk0
        · rename_i q; exact absurd q hk1
        · exact h1
      exact hret _ _ _ _ hen h3 hd h2
/-- a method's end -/
theorem am_ret_ok (en : am_En) {pc : Nat} {L : am_L} {st : List Value} (hC : am_C p s m args meth c own yn cc nL D tc b N0 sa sv LL xs h0l) (hsig : meth.sig.returnType = rt) (hlocks : meth.locks = false) (hok : am_okr rt en = true) (hdg : decode cc pc = .ok (en.1, en.2.1)) (hr : am_ret en st = some r) {mc ms : Nat} (hmc : h'.length ≤ h0l + mc) (hms : am_sz h' ≤ sz0 + ms) :
    am_W p l e R s m args below meth c (MQ below (am_Qc D tc b N0 sa r h') args s mc ms (fun q => N0 ≤ q)) D tc (am_ad b N0 sa) N0 nL h0l sz0 (pc, L, st, h') := by
  intro H locs ls cells slots hP hz hS hL hc hsl
  obtain ⟨hx, hb, hml, hown, hts, hK, hZ, hH0, hbN, hnm⟩ := hC
  dsimp only at hP hz hL hc hsl ⊢
  refine W.widen (k := mc) (n := ms) (by omega) (by omega) ?_
  have hq : ∀ (v : Option Value), v = r.map (am_v (am_ad b N0 sa)) → ∀ t : State, t.heap = H → s.WarmedH t.vm → am_Qc D tc b N0 sa r h' args s (.returned v) t := by
    intro v hv t ht hW
    exact ⟨by rw [hv], by rw [ht]; exact hz, by rw [ht]; exact hP, hS.F ht⟩
  obtain ⟨i, ln, a, v, tg, ps⟩ := en
  unfold am_okr at hok
  dsimp only at hok
  rw [Bool.and_eq_true] at hok
  obtain ⟨hln, hok1⟩ := hok
  have hln := Nat.eq_of_beq_eq_true hln
  dsimp only at hdg
  rw [hln] at hdg
  cases i with
  | return_ =>
    cases st with
    | nil =>
      cases hr
      have h2 := of_decide_eq_true hok1
      exact W.vret hx hb (hsig.trans h2) (hq none rfl) hS.2.2 hdg hlocks
    | cons u st => cases hr
  | ireturn =>
    rcases st with _ | ⟨u, _ | ⟨w, st⟩⟩
    · cases hr
    · cases u with
      | int x =>
        have hr : (bif Nat.beq a 0 then some (some (Value.int x)) else bif Nat.beq a 2 then (bif decide (0 ≤ x.toInt) && decide (x.toInt < 65536) then some (some (Value.int x)) else none) else bif Nat.beq a 3 then (bif decide (x = 0) then some (some (Value.int x)) else none) else (bif x == 0 || x == 1 then some (some (Value.int x)) else none)) = some r := hr
        have hok2 : ((Nat.beq a 0 && decide (rt = some .int)) || (Nat.beq a 1 && decide (rt = some .boolean)) || (Nat.beq a 2 && decide (rt = some .char)) || (Nat.beq a 3 && decide (rt = some .byte))) = true := hok1
        simp only [Bool.or_eq_true, Bool.and_eq_true, decide_eq_true_eq] at hok2
        rcases hok2 with ((⟨h1, h2⟩ | ⟨h1, h2⟩) | ⟨h1, h2⟩) | ⟨h1, h2⟩
        · rw [h1, cond_true] at hr
          cases hr
          exact W.iret (v := x) hx hb (hsig.trans h2) (hq _ rfl) hS.2.2 hdg hlocks
        · have ha := Nat.eq_of_beq_eq_true h1
          rw [ha, show Nat.beq 1 0 = false from rfl, cond_false, show Nat.beq 1 2 = false from rfl, cond_false, show Nat.beq 1 3 = false from rfl, cond_false] at hr
          cases hx01 : (x == 0 || x == 1) with
          | false => rw [hx01] at hr; cases hr
          | true =>
            rw [hx01, cond_true] at hr
            cases hr
            simp only [Bool.or_eq_true, beq_iff_eq] at hx01
            exact W.zret (v := x) (ty := .boolean) hx hb (hsig.trans h2) (by rcases hx01 with rfl | rfl <;> rfl) (hq _ rfl) hS.2.2 hdg hlocks
        · have ha := Nat.eq_of_beq_eq_true h1
          rw [ha, show Nat.beq 2 0 = false from rfl, cond_false, show Nat.beq 2 2 = true from rfl, cond_true] at hr
          cases hx01 : (decide (0 ≤ x.toInt) && decide (x.toInt < 65536)) with
          | false => rw [hx01] at hr; cases hr
          | true =>
            rw [hx01, cond_true] at hr
            cases hr
            simp only [Bool.and_eq_true, decide_eq_true_eq] at hx01
            exact W.zret (v := x) (ty := .char) hx hb (hsig.trans h2) (by
              have := lg_i2c_word hx01.1 hx01.2
              rw [lg_i2c_nf] at this
              show Value.int x.toUInt32.toUInt16.toUInt32.toInt32 = Value.int x
              rw [this]) (hq _ rfl) hS.2.2 hdg hlocks
        · have ha := Nat.eq_of_beq_eq_true h1
          rw [ha, show Nat.beq 3 0 = false from rfl, cond_false, show Nat.beq 3 2 = false from rfl, cond_false, show Nat.beq 3 3 = true from rfl, cond_true] at hr
          cases hx01 : decide (x = 0) with
          | false => rw [hx01] at hr; cases hr
          | true =>
            rw [hx01, cond_true] at hr
            cases hr
            have hx0 := of_decide_eq_true hx01
            subst hx0
            exact W.zret (v := 0) (ty := .byte) hx hb (hsig.trans h2) rfl (hq _ rfl) hS.2.2 hdg hlocks
      | _ => cases hr
    · cases u <;> cases hr
  | lreturn =>
    rcases st with _ | ⟨u, _ | ⟨w, st⟩⟩
    · cases hr
    · cases u with
      | long x =>
        cases hr
        have h2 := of_decide_eq_true hok1
        exact W.lret hx hb (hsig.trans h2) (hq _ rfl) hS.2.2 hdg hlocks
      | _ => cases hr
    · cases u <;> cases hr
  | areturn =>
    have hrt : (∃ n, rt = some (.object n)) ∨ ∃ t, rt = some (.array t) := by
      rcases rt with _ | rt
      · cases hok1
      · cases rt <;> first | (cases hok1; done) | exact Or.inl ⟨_, rfl⟩ | exact Or.inr ⟨_, rfl⟩
    have key : ∀ v : Value, (v = .null ∨ ∃ a, v = .ref a) → some v = r.map (am_v (am_ad b N0 sa)) → W p l e R s m args below meth c H locs mc ms (MQ below (am_Qc D tc b N0 sa r h') args s mc ms (fun q => N0 ≤ q)) (F0 m pc ls [v]) := by
      intro v hv hv2
      rcases hrt with ⟨n, hrt⟩ | ⟨n, hrt⟩
      · exact W.aret (v := v) hx hb (hsig.trans hrt) (Or.inl ⟨_, rfl⟩) hv (hq _ hv2) hS.2.2 hdg hlocks
      · exact W.aret (v := v) hx hb (hsig.trans hrt) (Or.inr ⟨_, rfl⟩) hv (hq _ hv2) hS.2.2 hdg hlocks
    rcases st with _ | ⟨u, _ | ⟨w, st⟩⟩
    · cases hr
    · cases u with
      | ref q => cases hr; exact key _ (Or.inr ⟨_, rfl⟩) rfl
      | null => cases hr; exact key _ (Or.inl rfl) rfl
      | _ => cases hr
    · cases u <;> cases hr
  | _ => cases hok1
end AMR
/-! the entry's locals -/
theorem am_ent_mem (ad : Nat → Nat) : ∀ (vs : List Value) (k i : Nat) (v : Value) (t : am_L), (∀ j w, am_loc t j ≠ some w) → am_loc (am_ex vs ++ t) i = some v → (k + i, am_v ad v) ∈ lv_args k (vs.map (am_v ad)) := by
  intro vs
  induction vs with
  | nil => intro k i v t ht h; exact absurd h (ht i v)
  | cons w vs ih =>
    intro k i v t ht h
    show (k + i, am_v ad v) ∈ lv_args k (am_v ad w :: vs.map (am_v ad))
    unfold lv_args
    unfold am_ex at h
    rw [am_v_cat]
    cases hc : Nat.beq w.category 2 with
    | true =>
      rw [hc, cond_true] at h
      rw [if_pos (Nat.eq_of_beq_eq_true hc)]
      match i, h with
      | 0, h => cases h; exact List.mem_cons_self
      | 1, h => cases h
      | i + 2, h =>
        have := ih (k + 2) i v t ht h
        rw [show k + (i + 2) = k + 2 + i by omega]
        exact List.mem_cons_of_mem _ this
    | false =>
      rw [hc, cond_false] at h
      rw [if_neg (fun q => by rw [q] at hc; cases hc)]
      match i, h with
      | 0, h => cases h; exact List.mem_cons_self
      | i + 1, h =>
        have := ih (k + 1) i v t ht h
        rw [show k + (i + 1) = k + 1 + i by omega]
        exact List.mem_cons_of_mem _ this
theorem am_ex_len (ad : Nat → Nat) : ∀ vs : List Value, (lg_sl (vs.map (am_v ad))).length = (am_ex vs).length := by
  intro vs
  induction vs with
  | nil => rfl
  | cons w vs ih =>
    unfold am_ex
    show (lg_sl (am_v ad w :: vs.map (am_v ad))).length = _
    unfold lg_sl at ih ⊢
    rw [List.flatMap_cons, List.length_append, ih, am_v_cat]
    cases hc : Nat.beq w.category 2 with
    | true => rw [if_pos (Nat.eq_of_beq_eq_true hc), cond_true]; simp; omega
    | false => rw [if_neg (fun q => by rw [q] at hc; cases hc), cond_false]; simp; omega
theorem am_ent_LR {ad : Nat → Nat} {nL : Nat} {vs : List Value} (hn : (am_ex vs).length ≤ nL) : am_LR ad ((lg_sl (vs.map (am_v ad)) ++ List.replicate (nL - (lg_sl (vs.map (am_v ad))).length) Slot.unset).toArray) nL (am_ent nL vs) := by
  have h := lv_entry (vs.map (am_v ad)) (n := nL) (by rw [am_ex_len]; exact hn)
  refine ⟨⟨h.1, h.2.1, fun q hq => ?_⟩, ?_⟩
  · obtain ⟨v, h1, h2⟩ := am_lv_mem.mp hq
    obtain ⟨i, w⟩ := q
    have h2 : w = am_v ad v := h2
    subst h2
    refine h.2.2 (i, am_v ad v) ?_
    have := am_ent_mem ad vs 0 i v (List.replicate (nL - (am_ex vs).length) none) (fun j w hj => by
      have := am_loc_lt hj
      rw [List.getElem?_replicate] at this
      split at this <;> cases this) h1
    rwa [Nat.zero_add] at this
  · unfold am_ent
    rw [List.length_append, List.length_replicate]
    omega
