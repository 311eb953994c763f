set_option maxHeartbeats 1000000 in
theorem whole_start {p : Program} {e : Env} {s : State} {m : MethodId} {below : List Frame} {meth : Method} {c : Code} (l : Launch) (hflags : l.flags = flags0) {b L : Nat} {xs : Nat → Int32} (hL : L ≤ 3072) (C0 : lw_At p s m meth c b L xs) : W p l e room_1 s m #[Value.ref b] below meth c s.heap [] 0 0 (lw_Z below #[Value.ref b] s) (entryFrame m ([Value.ref b] : List Value).toArray 4) := by
  obtain ⟨hx, hb, hr, hml, hown, hts, hX, hbl, hlocks, hgv⟩ := C0
  have hs := flat_of_before _ hgv
  obtain ⟨adK, adV, hS6, hev⟩ := am_strings hs
  obtain ⟨fz, hfz⟩ : ∃ n : Nat, va_Z "jdk/internal/util/Preconditions" "SIOOBE_FORMATTER" "Ljava/util/function/BiFunction;" (am_fv n) (fun q => s.heap.size ≤ q) s s.heap := by
    rcases va_Zqof (args := #[Value.ref b]) (C := "jdk/internal/util/Preconditions") (n := "SIOOBE_FORMATTER") (d := "Ljava/util/function/BiFunction;") (A := fun q => s.heap.size ≤ q) (hts _ (by decide +kernel)) (hts _ (by decide +kernel)) (hs _ (by decide +kernel)) (fun a h => Nat.not_le.mpr h) with h | ⟨t, h⟩
    · exact ⟨0, h⟩
    · exact ⟨t + 1, h⟩
  obtain ⟨sa, hsa⟩ : ∃ sa : Nat → Nat, sa = fun i => if i < 7 then adK (i - 1) else if i < 13 then adV (i - 7) else fz := ⟨_, rfl⟩
  have hsK : ∀ i, i < 6 → sa (i + 1) = adK i := fun i hi => by rw [hsa]; show (if i + 1 < 7 then _ else _) = _; rw [if_pos (by omega), Nat.add_sub_cancel]
  have hsV : ∀ i, i < 6 → sa (i + 7) = adV i := fun i hi => by rw [hsa]; show (if i + 7 < 7 then _ else if i + 7 < 13 then _ else _) = _; rw [if_neg (by omega), if_pos (by omega), Nat.add_sub_cancel]
  have hsF : sa 13 = fz := by rw [hsa]; rfl
  have hS6' : vk_S 6 am_len am_byt (fun i => sa (i + 1)) (fun i => sa (i + 7)) (fun q => s.heap.size ≤ q) s s.heap := by
    refine ⟨fun i hi => ?_, fun i j hi hj h => hS6.2 i j hi hj ?_⟩
    · have h := hS6.1 i hi
      dsimp only
      rw [hsK i hi, hsV i hi]
      exact h
    · dsimp only at h
      rw [hsK i hi, hsK j hj] at h
      exact h
  obtain ⟨D, tc, hK⟩ := am_Kt hts
  have hZ : am_Z b L xs sa adV (fun q => s.heap.size ≤ q) s s.heap := by
    refine ⟨hX, ?_, hS6', am_ncs hs, ⟨va_Zof (hts _ (by decide +kernel)) (hts _ (by decide +kernel)) (va_eqi (hs _ (by decide +kernel))) (fun a h => Nat.not_le.mpr h), by rw [hsF]; exact hfz⟩, am_stks hts⟩
    unfold am_strs
    exact List.forall_mem_cons.mpr ⟨vk_R.of (A := #[.ref b]) (hts _ (by decide +kernel)) (by have h := hev 0 (by decide); rw [← hsK 0 (by decide)] at h; exact h), List.forall_mem_cons.mpr ⟨vk_R.of (A := #[.ref b]) (hts _ (by decide +kernel)) (by have h := hev 1 (by decide); rw [← hsK 1 (by decide)] at h; exact h), List.forall_mem_cons.mpr ⟨vk_R.of (A := #[.ref b]) (hts _ (by decide +kernel)) (by have h := hev 2 (by decide); rw [← hsK 2 (by decide)] at h; exact h), List.forall_mem_cons.mpr ⟨vk_R.of (A := #[.ref b]) (hts _ (by decide +kernel)) (by have h := hev 3 (by decide); rw [← hsK 3 (by decide)] at h; exact h), List.forall_mem_cons.mpr ⟨vk_R.of (A := #[.ref b]) (hts _ (by decide +kernel)) (by have h := hev 4 (by decide); rw [← hsK 4 (by decide)] at h; exact h), List.forall_mem_cons.mpr ⟨vk_R.of (A := #[.ref b]) (hts _ (by decide +kernel)) (by have h := hev 5 (by decide); rw [← hsK 5 (by decide)] at h; exact h), fun _ h => absurd h List.not_mem_nil⟩⟩⟩⟩⟩⟩
  have hC : am_C p s m #[Value.ref b] meth c "PointHouseLaw" "law" code 4 D tc b s.heap.size sa adV L xs 0 :=
    ⟨hx, hb, hml, hown, fun w hw => hts w (List.mem_filter.mp hw).1, hK, hZ, rfl, hbl, fun h => absurd h (by decide)⟩
  obtain ⟨f, h', hrun, hl1, hl2⟩ := pure_law L xs hL
  have key := am_run_ok (l := l) (e := e) (below := below) (Q := lw_Z below #[Value.ref b] s) (R := room_1) (h0l := 0) (sz0 := 0) (r := some (.int 1)) (h' := h') (d := 11) (rt := some .boolean) hC ck_law
    (am_X_ok l D tc b s.heap.size sa adV L xs hbl 11)
    ⟨by decide, by decide⟩ (by show h'.length ≤ 0 + 600000; omega) (by show am_sz h' ≤ 0 + 7302250; omega)
    (fun pc Lc st en hen hok hdg hrt => by
      intro H locs ls cells slots hP hz hS hLR hc hsl
      dsimp only at hP hz hLR hc hsl ⊢
      obtain ⟨i, ln, a, v, tg, ps⟩ := en
      have hln : ln = 1 := by
        unfold am_okr at hok
        dsimp only at hok
        rw [Bool.and_eq_true] at hok
        exact Nat.eq_of_beq_eq_true hok.1
      subst hln
      unfold am_ret at hrt
      dsimp only at hrt
      cases i with
      | ireturn =>
        rcases st with _ | ⟨u, _ | ⟨w, st⟩⟩
        · cases hrt
        · cases u with
          | int x =>
            have ha : a = 1 := by
              have h2 : ((Nat.beq a 0 && decide (some FieldType.boolean = some FieldType.int)) || (Nat.beq a 1 && decide (some FieldType.boolean = some FieldType.boolean)) || (Nat.beq a 2 && decide (some FieldType.boolean = some FieldType.char)) || (Nat.beq a 3 && decide (some FieldType.boolean = some FieldType.byte))) = true := by
                unfold am_okr at hok
                dsimp only at hok
                rw [Bool.and_eq_true] at hok
                exact hok.2
              simp only [Bool.or_eq_true, Bool.and_eq_true, decide_eq_true_eq] at h2
              rcases h2 with ((⟨_, q⟩ | ⟨q, _⟩) | ⟨_, q⟩) | ⟨_, q⟩
              · cases q
              · exact Nat.eq_of_beq_eq_true q
              · cases q
              · cases q
            have hx1 : x = 1 := by
              rw [ha] at hrt
              have hrt : (bif x == 0 || x == 1 then some (some (Value.int x)) else none) = some (some (.int 1)) := hrt
              cases hx01 : (x == 0 || x == 1) with
              | false => rw [hx01] at hrt; cases hrt
              | true => rw [hx01, cond_true] at hrt; cases hrt; rfl
            subst hx1
            refine va_forget (fun q hq => hS.2.2 q hq) ?_
            refine W.widen (k := 600000) (n := 7302250) (by omega) (by omega) ?_
            exact lw_ret hx hb hr hlocks hdg
          | _ => cases hrt
        · cases u <;> cases hrt
      | return_ => (cases st <;> cases hrt)
      | lreturn => (rcases st with _ | ⟨u, _ | ⟨w, st⟩⟩ <;> (try cases u) <;> cases hrt)
      | areturn => (rcases st with _ | ⟨u, _ | ⟨w, st⟩⟩ <;> (try cases u) <;> cases hrt)
      | _ => (rcases st with _ | ⟨u, _ | ⟨w, st⟩⟩ <;> cases hrt)) f 0 _ _ _ hrun
  rw [lg_entry_eq]
  exact key s.heap [] _ 0 0 (fun k q h => by simp [am_w] at h) rfl va_S.rf (am_ent_LR (ad := am_ad b s.heap.size sa) (vs := [.ref 0]) (by decide)) rfl rfl
