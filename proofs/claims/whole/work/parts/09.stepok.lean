theorem am_no {S : am_S} {P : Prop} (h : (none : Option am_S) = some S) : P := by cases h
section AMX
variable {p : Program} {l : Launch} {e : Env} {R : Room} {s : State} {m : MethodId} {args : Array Value} {below : List Frame} {meth : Method} {c : Code} {Q : State → Prop}
variable {own yn : String} {cc : ByteArray} {nL : Nat} {D : va_G} {tc : Nat → Nat} {b N0 : Nat} {sa sv : Nat → Nat} {LL : Nat} {xs : Nat → Int32} {h0l sz0 pc : Nat} {L : am_L} {st : List Value} {h : am_H} {S : am_S}
theorem am_lsw {d : Int} (hd : 0 ≤ d) (z : Int) : ∀ {qs : List (Int × Int)}, (∀ q ∈ qs, 0 ≤ q.2) → 0 ≤ Op.lookupswitch.offset qs d z := by
  intro qs
  induction qs with
  | nil => intro _; exact hd
  | cons q t ih =>
    intro hq
    obtain ⟨q1, q2⟩ := q
    unfold Op.lookupswitch.offset
    split
    · exact hq _ List.mem_cons_self
    · exact ih (fun q h => hq q (List.mem_cons_of_mem _ h))
set_option maxHeartbeats 4000000 in
theorem am_step_ok (en : am_En) (hC : am_C p s m args meth c own yn cc nL D tc b N0 sa sv LL xs h0l) (hok : am_ok own yn nL pc en = true) (hdg : decode cc pc = .ok (en.1, en.2.1)) (hR : 1 ≤ R.frames ∧ 38 ≤ R.locals) (hRc : S.2.2.2.length ≤ h0l + R.cells) (hRs : am_sz S.2.2.2 ≤ sz0 + R.slots)
    (hs : am_step xs LL en pc L st h = some S) (k : am_W p l e R s m args below meth c Q D tc (am_ad b N0 sa) N0 nL h0l sz0 S) : am_W p l e R s m args below meth c Q D tc (am_ad b N0 sa) N0 nL h0l sz0 (pc, L, st, h) := by
  obtain ⟨i, ln, a, v, tg, ps⟩ := en
  dsimp only at hdg
  cases i with
  | iconst n =>
    obtain rfl := Nat.eq_of_beq_eq_true (show Nat.beq ln 1 = true from hok)
    exact as_iconst hC hdg hs k
  | lconst n =>
    obtain rfl := Nat.eq_of_beq_eq_true (show Nat.beq ln 1 = true from hok)
    exact as_lconst hC hdg hs k
  | aconst_null =>
    obtain rfl := Nat.eq_of_beq_eq_true (show Nat.beq ln 1 = true from hok)
    exact as_null hC hdg hs k
  | iload_n i =>
    obtain rfl := Nat.eq_of_beq_eq_true (show Nat.beq ln 1 = true from hok)
    exact as_iload_n hC hdg hs k
  | lload_n i =>
    obtain rfl := Nat.eq_of_beq_eq_true (show Nat.beq ln 1 = true from hok)
    exact as_lload_n hC hdg hs k
  | aload_n i =>
    obtain rfl := Nat.eq_of_beq_eq_true (show Nat.beq ln 1 = true from hok)
    exact as_aload_n hC hdg hs k
  | bipush n =>
    obtain rfl := Nat.eq_of_beq_eq_true (show Nat.beq ln 2 = true from hok)
    exact as_bipush hC hdg hs k
  | sipush n =>
    obtain rfl := Nat.eq_of_beq_eq_true (show Nat.beq ln 3 = true from hok)
    exact as_sipush hC hdg hs k
  | iload i =>
    obtain rfl := Nat.eq_of_beq_eq_true (show Nat.beq ln 2 = true from hok)
    exact as_iload hC hdg hs k
  | lload i =>
    obtain rfl := Nat.eq_of_beq_eq_true (show Nat.beq ln 2 = true from hok)
    exact as_lload hC hdg hs k
  | aload i =>
    obtain rfl := Nat.eq_of_beq_eq_true (show Nat.beq ln 2 = true from hok)
    exact as_aload hC hdg hs k
  | istore_n i =>
    have hok : (Nat.beq ln 1 && _) = true := hok
    rw [Bool.and_eq_true] at hok
    obtain ⟨hln, hok⟩ := hok
    obtain rfl := Nat.eq_of_beq_eq_true hln
    rcases st with _ | ⟨u, st⟩
    · exact am_no hs
    cases u with
    | int x => exact as_istore_n hC hdg (of_decide_eq_true hok) hs k
    | _ => (rcases st with _ | ⟨w, st⟩ <;> (try cases w) <;> exact am_no hs)
  | istore i =>
    have hok : (Nat.beq ln 2 && _) = true := hok
    rw [Bool.and_eq_true] at hok
    obtain ⟨hln, hok⟩ := hok
    obtain rfl := Nat.eq_of_beq_eq_true hln
    rcases st with _ | ⟨u, st⟩
    · exact am_no hs
    cases u with
    | int x => exact as_istore hC hdg (of_decide_eq_true hok) hs k
    | _ => (rcases st with _ | ⟨w, st⟩ <;> (try cases w) <;> exact am_no hs)
  | astore_n i =>
    have hok : (Nat.beq ln 1 && _) = true := hok
    rw [Bool.and_eq_true] at hok
    obtain ⟨hln, hok⟩ := hok
    obtain rfl := Nat.eq_of_beq_eq_true hln
    rcases st with _ | ⟨u, st⟩
    · exact am_no hs
    cases u with
    | ref x => exact as_astore_n hC hdg (of_decide_eq_true hok) hs k
    | null => exact as_astore_nN hC hdg (of_decide_eq_true hok) hs k
    | _ => (rcases st with _ | ⟨w, st⟩ <;> (try cases w) <;> exact am_no hs)
  | astore i =>
    have hok : (Nat.beq ln 2 && _) = true := hok
    rw [Bool.and_eq_true] at hok
    obtain ⟨hln, hok⟩ := hok
    obtain rfl := Nat.eq_of_beq_eq_true hln
    rcases st with _ | ⟨u, st⟩
    · exact am_no hs
    cases u with
    | ref x => exact as_astore hC hdg (of_decide_eq_true hok) hs k
    | null => exact as_astoreN hC hdg (of_decide_eq_true hok) hs k
    | _ => (rcases st with _ | ⟨w, st⟩ <;> (try cases w) <;> exact am_no hs)
  | lstore_n i =>
    have hok : (Nat.beq ln 1 && _) = true := hok
    rw [Bool.and_eq_true] at hok
    obtain ⟨hln, hok⟩ := hok
    obtain rfl := Nat.eq_of_beq_eq_true hln
    rcases st with _ | ⟨u, st⟩
    · exact am_no hs
    cases u with
    | long x => exact as_lstore_n hC hdg (of_decide_eq_true hok) hs k
    | _ => (rcases st with _ | ⟨w, st⟩ <;> (try cases w) <;> exact am_no hs)
  | lstore i =>
    have hok : (Nat.beq ln 2 && _) = true := hok
    rw [Bool.and_eq_true] at hok
    obtain ⟨hln, hok⟩ := hok
    obtain rfl := Nat.eq_of_beq_eq_true hln
    rcases st with _ | ⟨u, st⟩
    · exact am_no hs
    cases u with
    | long x => exact as_lstore hC hdg (of_decide_eq_true hok) hs k
    | _ => (rcases st with _ | ⟨w, st⟩ <;> (try cases w) <;> exact am_no hs)
  | iinc i n =>
    have hok : (Nat.beq ln 3 && _) = true := hok
    rw [Bool.and_eq_true] at hok
    obtain ⟨hln, hok⟩ := hok
    obtain rfl := Nat.eq_of_beq_eq_true hln
    exact as_iinc hC hdg (of_decide_eq_true hok) hs k
  | l2i =>
    obtain rfl := Nat.eq_of_beq_eq_true (show Nat.beq ln 1 = true from hok)
    rcases st with _ | ⟨u, st⟩
    · exact am_no hs
    cases u with
    | long x => exact as_l2i hC hdg hs k
    | _ => (rcases st with _ | ⟨w, st⟩ <;> (try cases w) <;> exact am_no hs)
  | ineg =>
    obtain rfl := Nat.eq_of_beq_eq_true (show Nat.beq ln 1 = true from hok)
    rcases st with _ | ⟨u, st⟩
    · exact am_no hs
    cases u with
    | int x => exact as_ineg hC hdg hs k
    | _ => (rcases st with _ | ⟨w, st⟩ <;> (try cases w) <;> exact am_no hs)
  | i2l =>
    obtain rfl := Nat.eq_of_beq_eq_true (show Nat.beq ln 1 = true from hok)
    rcases st with _ | ⟨u, st⟩
    · exact am_no hs
    cases u with
    | int x => exact as_i2l hC hdg hs k
    | _ => (rcases st with _ | ⟨w, st⟩ <;> (try cases w) <;> exact am_no hs)
  | i2b =>
    obtain rfl := Nat.eq_of_beq_eq_true (show Nat.beq ln 1 = true from hok)
    rcases st with _ | ⟨u, st⟩
    · exact am_no hs
    cases u with
    | int x => exact as_i2b hC hdg hs k
    | _ => (rcases st with _ | ⟨w, st⟩ <;> (try cases w) <;> exact am_no hs)
  | i2s =>
    obtain rfl := Nat.eq_of_beq_eq_true (show Nat.beq ln 1 = true from hok)
    rcases st with _ | ⟨u, st⟩
    · exact am_no hs
    cases u with
    | int x => exact as_i2s hC hdg hs k
    | _ => (rcases st with _ | ⟨w, st⟩ <;> (try cases w) <;> exact am_no hs)
  | i2c =>
    obtain rfl := Nat.eq_of_beq_eq_true (show Nat.beq ln 1 = true from hok)
    rcases st with _ | ⟨u, st⟩
    · exact am_no hs
    cases u with
    | int x => exact as_i2c hC hdg hs k
    | _ => (rcases st with _ | ⟨w, st⟩ <;> (try cases w) <;> exact am_no hs)
  | dup =>
    obtain rfl := Nat.eq_of_beq_eq_true (show Nat.beq ln 1 = true from hok)
    rcases st with _ | ⟨u, st⟩
    · exact am_no hs
    exact as_dup hC hdg hs k
  | dup_x1 =>
    obtain rfl := Nat.eq_of_beq_eq_true (show Nat.beq ln 1 = true from hok)
    rcases st with _ | ⟨u, _ | ⟨w, st⟩⟩
    · exact am_no hs
    · cases u <;> exact am_no hs
    exact as_dup_x1 hC hdg hs k
  | dup2 =>
    obtain rfl := Nat.eq_of_beq_eq_true (show Nat.beq ln 1 = true from hok)
    rcases st with _ | ⟨u, _ | ⟨w, st⟩⟩
    · exact am_no hs
    · cases u <;> exact am_no hs
    exact as_dup2 hC hdg hs k
  | iadd =>
    obtain rfl := Nat.eq_of_beq_eq_true (show Nat.beq ln 1 = true from hok)
    rcases st with _ | ⟨u, _ | ⟨w, st⟩⟩
    · exact am_no hs
    · cases u <;> exact am_no hs
    cases u with
    | int y => cases w with
      | int x => exact as_iadd hC hdg hs k
      | _ => exact am_no hs
    | _ => (cases w <;> exact am_no hs)
  | isub =>
    obtain rfl := Nat.eq_of_beq_eq_true (show Nat.beq ln 1 = true from hok)
    rcases st with _ | ⟨u, _ | ⟨w, st⟩⟩
    · exact am_no hs
    · cases u <;> exact am_no hs
    cases u with
    | int y => cases w with
      | int x => exact as_isub hC hdg hs k
      | _ => exact am_no hs
    | _ => (cases w <;> exact am_no hs)
  | imul =>
    obtain rfl := Nat.eq_of_beq_eq_true (show Nat.beq ln 1 = true from hok)
    rcases st with _ | ⟨u, _ | ⟨w, st⟩⟩
    · exact am_no hs
    · cases u <;> exact am_no hs
    cases u with
    | int y => cases w with
      | int x => exact as_imul hC hdg hs k
      | _ => exact am_no hs
    | _ => (cases w <;> exact am_no hs)
  | idiv =>
    obtain rfl := Nat.eq_of_beq_eq_true (show Nat.beq ln 1 = true from hok)
    rcases st with _ | ⟨u, _ | ⟨w, st⟩⟩
    · exact am_no hs
    · cases u <;> exact am_no hs
    cases u with
    | int y => cases w with
      | int x => exact as_idiv hC hdg hs k
      | _ => exact am_no hs
    | _ => (cases w <;> exact am_no hs)
  | iand =>
    obtain rfl := Nat.eq_of_beq_eq_true (show Nat.beq ln 1 = true from hok)
    rcases st with _ | ⟨u, _ | ⟨w, st⟩⟩
    · exact am_no hs
    · cases u <;> exact am_no hs
    cases u with
    | int y => cases w with
      | int x => exact as_iand hC hdg hs k
      | _ => exact am_no hs
    | _ => (cases w <;> exact am_no hs)
  | ior =>
    obtain rfl := Nat.eq_of_beq_eq_true (show Nat.beq ln 1 = true from hok)
    rcases st with _ | ⟨u, _ | ⟨w, st⟩⟩
    · exact am_no hs
    · cases u <;> exact am_no hs
    cases u with
    | int y => cases w with
      | int x => exact as_ior hC hdg hs k
      | _ => exact am_no hs
    | _ => (cases w <;> exact am_no hs)
  | ixor =>
    obtain rfl := Nat.eq_of_beq_eq_true (show Nat.beq ln 1 = true from hok)
    rcases st with _ | ⟨u, _ | ⟨w, st⟩⟩
    · exact am_no hs
    · cases u <;> exact am_no hs
    cases u with
    | int y => cases w with
      | int x => exact as_ixor hC hdg hs k
      | _ => exact am_no hs
    | _ => (cases w <;> exact am_no hs)
  | ishl =>
    obtain rfl := Nat.eq_of_beq_eq_true (show Nat.beq ln 1 = true from hok)
    rcases st with _ | ⟨u, _ | ⟨w, st⟩⟩
    · exact am_no hs
    · cases u <;> exact am_no hs
    cases u with
    | int y => cases w with
      | int x => exact as_ishl hC hdg hs k
      | _ => exact am_no hs
    | _ => (cases w <;> exact am_no hs)
  | ishr =>
    obtain rfl := Nat.eq_of_beq_eq_true (show Nat.beq ln 1 = true from hok)
    rcases st with _ | ⟨u, _ | ⟨w, st⟩⟩
    · exact am_no hs
    · cases u <;> exact am_no hs
    cases u with
    | int y => cases w with
      | int x => exact as_ishr hC hdg hs k
      | _ => exact am_no hs
    | _ => (cases w <;> exact am_no hs)
  | iushr =>
    obtain rfl := Nat.eq_of_beq_eq_true (show Nat.beq ln 1 = true from hok)
    rcases st with _ | ⟨u, _ | ⟨w, st⟩⟩
    · exact am_no hs
    · cases u <;> exact am_no hs
    cases u with
    | int y => cases w with
      | int x => exact as_iushr hC hdg hs k
      | _ => exact am_no hs
    | _ => (cases w <;> exact am_no hs)
  | ladd =>
    obtain rfl := Nat.eq_of_beq_eq_true (show Nat.beq ln 1 = true from hok)
    rcases st with _ | ⟨u, _ | ⟨w, st⟩⟩
    · exact am_no hs
    · cases u <;> exact am_no hs
    cases u with
    | long y => cases w with
      | long x => exact as_ladd hC hdg hs k
      | _ => exact am_no hs
    | _ => (cases w <;> exact am_no hs)
  | lmul =>
    obtain rfl := Nat.eq_of_beq_eq_true (show Nat.beq ln 1 = true from hok)
    rcases st with _ | ⟨u, _ | ⟨w, st⟩⟩
    · exact am_no hs
    · cases u <;> exact am_no hs
    cases u with
    | long y => cases w with
      | long x => exact as_lmul hC hdg hs k
      | _ => exact am_no hs
    | _ => (cases w <;> exact am_no hs)
  | land =>
    obtain rfl := Nat.eq_of_beq_eq_true (show Nat.beq ln 1 = true from hok)
    rcases st with _ | ⟨u, _ | ⟨w, st⟩⟩
    · exact am_no hs
    · cases u <;> exact am_no hs
    cases u with
    | long y => cases w with
      | long x => exact as_land hC hdg hs k
      | _ => exact am_no hs
    | _ => (cases w <;> exact am_no hs)
  | lor =>
    obtain rfl := Nat.eq_of_beq_eq_true (show Nat.beq ln 1 = true from hok)
    rcases st with _ | ⟨u, _ | ⟨w, st⟩⟩
    · exact am_no hs
    · cases u <;> exact am_no hs
    cases u with
    | long y => cases w with
      | long x => exact as_lor hC hdg hs k
      | _ => exact am_no hs
    | _ => (cases w <;> exact am_no hs)
  | lrem =>
    obtain rfl := Nat.eq_of_beq_eq_true (show Nat.beq ln 1 = true from hok)
    rcases st with _ | ⟨u, _ | ⟨w, st⟩⟩
    · exact am_no hs
    · cases u <;> exact am_no hs
    cases u with
    | long y => cases w with
      | long x => exact as_lrem hC hdg hs k
      | _ => exact am_no hs
    | _ => (cases w <;> exact am_no hs)
  | lcmp =>
    obtain rfl := Nat.eq_of_beq_eq_true (show Nat.beq ln 1 = true from hok)
    rcases st with _ | ⟨u, _ | ⟨w, st⟩⟩
    · exact am_no hs
    · cases u <;> exact am_no hs
    cases u with
    | long y => cases w with
      | long x => exact as_lcmp hC hdg hs k
      | _ => exact am_no hs
    | _ => (cases w <;> exact am_no hs)
  | lshl =>
    obtain rfl := Nat.eq_of_beq_eq_true (show Nat.beq ln 1 = true from hok)
    rcases st with _ | ⟨u, _ | ⟨w, st⟩⟩
    · exact am_no hs
    · cases u <;> exact am_no hs
    cases u with
    | int y => cases w with
      | long x => exact as_lshl hC hdg hs k
      | _ => exact am_no hs
    | _ => (cases w <;> exact am_no hs)
  | lshr =>
    obtain rfl := Nat.eq_of_beq_eq_true (show Nat.beq ln 1 = true from hok)
    rcases st with _ | ⟨u, _ | ⟨w, st⟩⟩
    · exact am_no hs
    · cases u <;> exact am_no hs
    cases u with
    | int y => cases w with
      | long x => exact as_lshr hC hdg hs k
      | _ => exact am_no hs
    | _ => (cases w <;> exact am_no hs)
  | lushr =>
    obtain rfl := Nat.eq_of_beq_eq_true (show Nat.beq ln 1 = true from hok)
    rcases st with _ | ⟨u, _ | ⟨w, st⟩⟩
    · exact am_no hs
    · cases u <;> exact am_no hs
    cases u with
    | int y => cases w with
      | long x => exact as_lushr hC hdg hs k
      | _ => exact am_no hs
    | _ => (cases w <;> exact am_no hs)
  | ifCond cn off =>
    have hok : (Nat.beq ln 3 && _) = true := hok
    rw [Bool.and_eq_true] at hok
    obtain ⟨hln, hok⟩ := hok
    obtain rfl := Nat.eq_of_beq_eq_true hln
    rcases st with _ | ⟨u, st⟩
    · exact am_no hs
    cases u with
    | int x => exact as_if hC hdg (of_decide_eq_true hok) hs k
    | _ => (rcases st with _ | ⟨w, st⟩ <;> (try cases w) <;> exact am_no hs)
  | if_icmp cn off =>
    have hok : (Nat.beq ln 3 && _) = true := hok
    rw [Bool.and_eq_true] at hok
    obtain ⟨hln, hok⟩ := hok
    obtain rfl := Nat.eq_of_beq_eq_true hln
    rcases st with _ | ⟨u, _ | ⟨w, st⟩⟩
    · exact am_no hs
    · cases u <;> exact am_no hs
    cases u with
    | int y => cases w with
      | int x => exact as_icmp hC hdg (of_decide_eq_true hok) hs k
      | _ => exact am_no hs
    | _ => (cases w <;> exact am_no hs)
  | goto off =>
    have hok : (Nat.beq ln 3 && _) = true := hok
    rw [Bool.and_eq_true] at hok
    obtain ⟨hln, hok⟩ := hok
    obtain rfl := Nat.eq_of_beq_eq_true hln
    exact as_goto hC hdg (of_decide_eq_true hok) hs k
  | ifnull off =>
    have hok : (Nat.beq ln 3 && _) = true := hok
    rw [Bool.and_eq_true] at hok
    obtain ⟨hln, hok⟩ := hok
    obtain rfl := Nat.eq_of_beq_eq_true hln
    rcases st with _ | ⟨u, st⟩
    · exact am_no hs
    cases u with
    | ref x => exact as_ifnull hC hdg (of_decide_eq_true hok) hs k
    | null => exact as_ifnullN hC hdg (of_decide_eq_true hok) hs k
    | _ => (rcases st with _ | ⟨w, st⟩ <;> (try cases w) <;> exact am_no hs)
  | ifnonnull off =>
    have hok : (Nat.beq ln 3 && _) = true := hok
    rw [Bool.and_eq_true] at hok
    obtain ⟨hln, hok⟩ := hok
    obtain rfl := Nat.eq_of_beq_eq_true hln
    rcases st with _ | ⟨u, st⟩
    · exact am_no hs
    cases u with
    | ref x => exact as_ifnonnull hC hdg (of_decide_eq_true hok) hs k
    | null => exact as_ifnonnullN hC hdg (of_decide_eq_true hok) hs k
    | _ => (rcases st with _ | ⟨w, st⟩ <;> (try cases w) <;> exact am_no hs)
  | tableswitch d lo hi offs =>
    have hok : (decide (0 ≤ d) && (offs.toList.all (fun o => decide (0 ≤ o)) && decide (hi - lo < (offs.size : Int)))) = true := hok
    simp only [Bool.and_eq_true, decide_eq_true_eq, List.all_eq_true] at hok
    rcases st with _ | ⟨u, st⟩
    · exact am_no hs
    cases u with
    | int x => exact as_tsw hC hdg hok.1 (fun o ho => hok.2.1 o (Array.mem_toList_iff.mpr ho)) hok.2.2 hs k
    | _ => (rcases st with _ | ⟨w, st⟩ <;> (try cases w) <;> exact am_no hs)
  | lookupswitch d qs =>
    have hok : (decide (0 ≤ d) && (qs.toList.all (fun q => decide (0 ≤ q.2)) && (qs.toList.zip (qs.toList.drop 1)).all (fun (a, next) => decide (a.1 < next.1)))) = true := hok
    rw [Bool.and_eq_true, Bool.and_eq_true] at hok
    rcases st with _ | ⟨u, st⟩
    · exact am_no hs
    cases u with
    | int x => exact as_lsw hC hdg hok.2.2 (fun z => am_lsw (of_decide_eq_true hok.1) z (fun q hq => of_decide_eq_true (List.all_eq_true.mp hok.2.1 q hq))) hs k
    | _ => (rcases st with _ | ⟨w, st⟩ <;> (try cases w) <;> exact am_no hs)
  | getfield idx =>
    have hok : (Nat.beq ln 3 && _) = true := hok
    rw [Bool.and_eq_true] at hok
    obtain ⟨hln, hok⟩ := hok
    obtain rfl := Nat.eq_of_beq_eq_true hln
    have hok : (tg.all (fun q => am_fldb own idx a ps q.1) && (decide (v ≠ 9) || ((Nat.beq a 0 && am_hw ps 0 (.fieldLink own idx "java/lang/String" "value" "[B")) || (Nat.beq a 1 && am_hw ps 0 (.fieldLink own idx "java/lang/String" "coder" "B"))))) = true := hok
    rw [Bool.and_eq_true] at hok
    have hf9 : v = 9 → (a = 0 ∧ Cond.fieldLink own idx "java/lang/String" "value" "[B" ∈ am_tbl) ∨ (a = 1 ∧ Cond.fieldLink own idx "java/lang/String" "coder" "B" ∈ am_tbl) := by
      intro h9
      have h2 := hok.2
      simp only [Bool.or_eq_true, Bool.and_eq_true, decide_eq_true_eq] at h2
      rcases h2 with h2 | ⟨h2, h3⟩ | ⟨h2, h3⟩
      · exact absurd h9 h2
      · exact Or.inl ⟨Nat.eq_of_beq_eq_true h2, am_hw_mem h3⟩
      · exact Or.inr ⟨Nat.eq_of_beq_eq_true h2, am_hw_mem h3⟩
    rcases st with _ | ⟨u, st⟩
    · exact am_no hs
    cases u with
    | ref x => exact as_getf hC hdg (fun q hq => am_fldb_of (List.all_eq_true.mp hok.1 q hq)) hf9 hs k
    | _ => (rcases st with _ | ⟨w, st⟩ <;> (try cases w) <;> exact am_no hs)
  | getstatic idx =>
    have hok : (Nat.beq ln 3 && _) = true := hok
    rw [Bool.and_eq_true] at hok
    obtain ⟨hln, hok⟩ := hok
    obtain rfl := Nat.eq_of_beq_eq_true hln
    have hok : ((Nat.beq a 0 && am_hw ps 0 (.fieldLink own idx "java/lang/String" "COMPACT_STRINGS" "Z")) || (Nat.beq a 1 && am_hw ps 0 (.fieldLink own idx "jdk/internal/util/Preconditions" "SIOOBE_FORMATTER" "Ljava/util/function/BiFunction;"))) = true := hok
    simp only [Bool.or_eq_true, Bool.and_eq_true] at hok
    exact as_gets hC hdg (hok.imp (fun z => ⟨Nat.eq_of_beq_eq_true z.1, am_hw_mem z.2⟩) (fun z => ⟨Nat.eq_of_beq_eq_true z.1, am_hw_mem z.2⟩)) hs k
  | pop =>
    obtain rfl := Nat.eq_of_beq_eq_true (show Nat.beq ln 1 = true from hok)
    rcases st with _ | ⟨u, st⟩
    · exact am_no hs
    exact as_pop hC hdg hs k
  | putfield idx =>
    have hok : (Nat.beq ln 3 && _) = true := hok
    rw [Bool.and_eq_true] at hok
    obtain ⟨hln, hok⟩ := hok
    obtain rfl := Nat.eq_of_beq_eq_true hln
    rcases st with _ | ⟨u, _ | ⟨w, st⟩⟩
    · exact am_no hs
    · cases u <;> exact am_no hs
    have hq2 : ∀ q ∈ tg, _ := fun q hq => (Bool.and_eq_true _ _).mp (List.all_eq_true.mp hok q hq)
    cases w with
    | ref r => exact as_putf hC hdg (fun q hq => am_fldb_of (hq2 q hq).1) (fun q hq => am_pfdb_of (hq2 q hq).2) hs k
    | _ => (cases u <;> exact am_no hs)
  | arraylength =>
    obtain rfl := Nat.eq_of_beq_eq_true (show Nat.beq ln 1 = true from hok)
    rcases st with _ | ⟨u, st⟩
    · exact am_no hs
    cases u with
    | ref x => exact as_alen hC hdg hs k
    | _ => (rcases st with _ | ⟨w, st⟩ <;> (try cases w) <;> exact am_no hs)
  | iaload =>
    obtain rfl := Nat.eq_of_beq_eq_true (show Nat.beq ln 1 = true from hok)
    rcases st with _ | ⟨u, _ | ⟨w, st⟩⟩
    · exact am_no hs
    · cases u <;> exact am_no hs
    cases u with
    | int y => cases w with
      | ref x => exact as_iald hC hdg hs k
      | _ => exact am_no hs
    | _ => (cases w <;> exact am_no hs)
  | baload =>
    obtain rfl := Nat.eq_of_beq_eq_true (show Nat.beq ln 1 = true from hok)
    rcases st with _ | ⟨u, _ | ⟨w, st⟩⟩
    · exact am_no hs
    · cases u <;> exact am_no hs
    cases u with
    | int y => cases w with
      | ref x => exact as_bald hC hdg hs k
      | _ => exact am_no hs
    | _ => (cases w <;> exact am_no hs)
  | aaload =>
    obtain rfl := Nat.eq_of_beq_eq_true (show Nat.beq ln 1 = true from hok)
    rcases st with _ | ⟨u, _ | ⟨w, st⟩⟩
    · exact am_no hs
    · cases u <;> exact am_no hs
    cases u with
    | int y => cases w with
      | ref x => exact as_aald hC hdg hs k
      | _ => exact am_no hs
    | _ => (cases w <;> exact am_no hs)
  | iastore =>
    obtain rfl := Nat.eq_of_beq_eq_true (show Nat.beq ln 1 = true from hok)
    rcases st with _ | ⟨u, _ | ⟨w, _ | ⟨z, st⟩⟩⟩
    · exact am_no hs
    · cases u <;> exact am_no hs
    · cases u <;> cases w <;> exact am_no hs
    cases u with
    | int x => cases w with
      | int y => cases z with
        | ref r => exact as_iast hC hdg hs k
        | _ => exact am_no hs
      | _ => exact am_no hs
    | _ => (cases w <;> exact am_no hs)
  | bastore =>
    obtain rfl := Nat.eq_of_beq_eq_true (show Nat.beq ln 1 = true from hok)
    rcases st with _ | ⟨u, _ | ⟨w, _ | ⟨z, st⟩⟩⟩
    · exact am_no hs
    · cases u <;> exact am_no hs
    · cases u <;> cases w <;> exact am_no hs
    cases u with
    | int x => cases w with
      | int y => cases z with
        | ref r => exact as_bast hC hdg hs k
        | _ => exact am_no hs
      | _ => exact am_no hs
    | _ => (cases w <;> exact am_no hs)
  | aastore =>
    have hok : (Nat.beq ln 1 && _) = true := hok
    rw [Bool.and_eq_true] at hok
    obtain ⟨hln, hok⟩ := hok
    obtain rfl := Nat.eq_of_beq_eq_true hln
    rcases st with _ | ⟨u, _ | ⟨w, _ | ⟨z, st⟩⟩⟩
    · exact am_no hs
    · cases u <;> exact am_no hs
    · cases u <;> cases w <;> exact am_no hs
    cases u with
    | ref x => cases w with
      | int y => cases z with
        | ref r => exact as_aast hC hdg (fun q hq => am_ascb_of (List.all_eq_true.mp hok q hq)) hs k
        | _ => exact am_no hs
      | _ => exact am_no hs
    | _ => (cases w <;> exact am_no hs)
  | new idx =>
    have hok : (Nat.beq ln 3 && _) = true := hok
    rw [Bool.and_eq_true] at hok
    obtain ⟨hln, hok⟩ := hok
    obtain rfl := Nat.eq_of_beq_eq_true hln
    exact as_new hC hdg (am_newb_of hok) hRc hRs hs k
  | newarray t =>
    cases t with
    | int =>
      have hok : (Nat.beq ln 2 && (Nat.beq a 0 && am_hw ps 0 (.arrayClass .int))) = true := hok
      rw [Bool.and_eq_true, Bool.and_eq_true] at hok
      obtain rfl := Nat.eq_of_beq_eq_true hok.1
      rcases st with _ | ⟨u, st⟩
      · exact am_no hs
      cases u with
      | int x => exact as_newaI hC hdg (Nat.eq_of_beq_eq_true hok.2.1) (am_hw_mem hok.2.2) hRc hRs hs k
      | _ => (rcases st with _ | ⟨w, st⟩ <;> (try cases w) <;> exact am_no hs)
    | boolean =>
      have hok : (Nat.beq ln 2 && (Nat.beq a 1 && am_hw ps 0 (.arrayClass .boolean))) = true := hok
      rw [Bool.and_eq_true, Bool.and_eq_true] at hok
      obtain rfl := Nat.eq_of_beq_eq_true hok.1
      rcases st with _ | ⟨u, st⟩
      · exact am_no hs
      cases u with
      | int x => exact as_newaZ hC hdg (Nat.eq_of_beq_eq_true hok.2.1) (am_hw_mem hok.2.2) hRc hRs hs k
      | _ => (rcases st with _ | ⟨w, st⟩ <;> (try cases w) <;> exact am_no hs)
    | _ => cases hok
  | anewarray idx =>
    have hok : (Nat.beq ln 3 && _) = true := hok
    rw [Bool.and_eq_true] at hok
    obtain ⟨hln, hok⟩ := hok
    obtain rfl := Nat.eq_of_beq_eq_true hln
    have hok : ((Nat.beq a 2 && (am_hw ps 0 (.classLink own idx RX2) && am_ha ps (.arrayOver (.object RX2)))) || (Nat.beq a 3 && (am_hw ps 0 (.classLink own idx RX8) && am_ha ps (.arrayOver (.object RX8))))) = true := hok
    rw [Bool.or_eq_true, Bool.and_eq_true, Bool.and_eq_true, Bool.and_eq_true, Bool.and_eq_true] at hok
    rcases st with _ | ⟨u, st⟩
    · exact am_no hs
    cases u with
    | int x =>
      rcases hok with hok | hok
      · exact as_anewG hC hdg (Nat.eq_of_beq_eq_true hok.1) (am_hw_mem hok.2.1) (am_ha_mem hok.2.2) hRc hRs hs k
      · exact as_anewS hC hdg (Nat.eq_of_beq_eq_true hok.1) (am_hw_mem hok.2.1) (am_ha_mem hok.2.2) hRc hRs hs k
    | _ => (rcases st with _ | ⟨w, st⟩ <;> (try cases w) <;> exact am_no hs)
  | instanceof idx =>
    have hok : (Nat.beq ln 3 && _) = true := hok
    rw [Bool.and_eq_true] at hok
    obtain ⟨hln, hok⟩ := hok
    obtain rfl := Nat.eq_of_beq_eq_true hln
    rcases st with _ | ⟨u, st⟩
    · exact am_no hs
    cases u with
    | ref x => exact as_ins hC hdg (fun q hq => am_insb_of (List.all_eq_true.mp hok q hq)) hs k
    | null => exact as_insN hC hdg hs k
    | _ => (rcases st with _ | ⟨w, st⟩ <;> (try cases w) <;> exact am_no hs)
  | invokespecial idx =>
    have hok : (Nat.beq ln 3 && _) = true := hok
    rw [Bool.and_eq_true] at hok
    obtain ⟨hln, hok⟩ := hok
    obtain rfl := Nat.eq_of_beq_eq_true hln
    have hok : (am_hw ps 0 (.methodLink own idx objectInit) && (am_hw ps 1 (.instanceMethod objectInit) && am_hw ps 2 (.code objectInit ⟨#[0xb1]⟩ 1 none))) = true := hok
    rw [Bool.and_eq_true, Bool.and_eq_true] at hok
    rcases st with _ | ⟨u, st⟩
    · exact am_no hs
    cases u with
    | ref x => exact as_objI hC hdg ⟨am_hw_mem hok.1, am_hw_mem hok.2.1, am_hw_mem hok.2.2⟩ hR hs k
    | _ => (rcases st with _ | ⟨w, st⟩ <;> (try cases w) <;> exact am_no hs)
  | invokestatic idx =>
    have hok : (Nat.beq ln 3 && ((decide (v = 0) && (am_hw ps 0 (.methodLink own idx arraycopyName) && (am_hw ps 1 (.native arraycopyName) && (am_hw ps 2 (.static arraycopyName) && am_hw ps 3 (.initialized "java/lang/System"))))) ||
      ((decide (v = 1) && (am_hw ps 0 (.methodLink own idx Lib.Math.max.name) && (am_hw ps 1 (.static Lib.Math.max.name) && (am_hw ps 2 (.initialized "java/lang/Math") && am_hw ps 3 (.code Lib.Math.max.name Lib.Math.max.code 2 (some .int)))))) ||
      (decide (v = 2) && (am_hw ps 0 (.methodLink own idx Lib.Math.min.name) && (am_hw ps 1 (.static Lib.Math.min.name) && (am_hw ps 2 (.initialized "java/lang/Math") && am_hw ps 3 (.code Lib.Math.min.name Lib.Math.min.code 2 (some .int))))))))) = true := hok
    rw [Bool.and_eq_true] at hok
    obtain ⟨hln, hok2⟩ := hok
    obtain rfl := Nat.eq_of_beq_eq_true hln
    simp only [Bool.or_eq_true, Bool.and_eq_true, decide_eq_true_eq] at hok2
    rcases st with _ | ⟨u1, _ | ⟨u2, st⟩⟩
    · exact am_no hs
    · cases u1 <;> exact am_no hs
    cases u1 with
    | int x1 => cases u2 with
      | int x2 =>
        rcases hok2 with ⟨hv, hok3⟩ | ⟨hv, hok3⟩ | ⟨hv, hok3⟩
        · have hs' := hs
          subst hv
          rcases st with _ | ⟨u3, st⟩
          · exact am_no hs
          cases u3 with
          | ref x3 =>
            rcases st with _ | ⟨u4, st⟩
            · exact am_no hs
            cases u4 with
            | int x4 =>
              rcases st with _ | ⟨u5, st⟩
              · exact am_no hs
              cases u5 with
              | ref x5 => exact as_copy hC hdg rfl ⟨am_hw_mem hok3.1, am_hw_mem hok3.2.1, am_hw_mem hok3.2.2.1, am_hw_mem hok3.2.2.2⟩ hR hs k
              | _ => exact am_no hs
            | _ => exact am_no hs
          | _ => exact am_no hs
        · exact as_mmax hC hdg hv ⟨am_hw_mem hok3.1, am_hw_mem hok3.2.1, am_hw_mem hok3.2.2.1, am_hw_mem hok3.2.2.2⟩ hR hRc hRs hs k
        · exact as_mmin hC hdg hv ⟨am_hw_mem hok3.1, am_hw_mem hok3.2.1, am_hw_mem hok3.2.2.1, am_hw_mem hok3.2.2.2⟩ hR hRc hRs hs k
      | _ => exact am_no hs
    | _ => (cases u2 <;> exact am_no hs)
  | ldc idx =>
    have hok : (Nat.beq ln 2 && _) = true := hok
    rw [Bool.and_eq_true] at hok
    obtain ⟨hln, hok⟩ := hok
    obtain rfl := Nat.eq_of_beq_eq_true hln
    rcases tg with _ | ⟨q, tg⟩
    · exact as_ldcI hC hdg rfl (am_hw_mem hok) hs k
    · have hok : (decide (own = RX9) && (am_strs.any (fun t => decide (t.1 = idx) && decide (t.2.2 = q.1)) && (decide (0 < q.1) && decide (q.1 < 7)))) = true := hok
      simp only [Bool.and_eq_true, decide_eq_true_eq, List.any_eq_true] at hok
      obtain ⟨h1, ⟨t, ht, h2, h3⟩, h4⟩ := hok
      obtain ⟨t1, t2, t3⟩ := t
      dsimp only at h2 h3
      subst h2; subst h3
      obtain ⟨q1, q2⟩ := q
      exact as_ldcS hC hdg rfl h1 ht h4 hs k
  | ldc_w idx =>
    have hok : (Nat.beq ln 3 && _) = true := hok
    rw [Bool.and_eq_true] at hok
    obtain ⟨hln, hok⟩ := hok
    obtain rfl := Nat.eq_of_beq_eq_true hln
    exact as_ldcw hC hdg (am_hw_mem hok) hs k
  | ldc2_w idx =>
    have hok : (Nat.beq ln 3 && _) = true := hok
    rw [Bool.and_eq_true] at hok
    obtain ⟨hln, hok⟩ := hok
    obtain rfl := Nat.eq_of_beq_eq_true hln
    exact as_ldc2 hC hdg (am_hw_mem hok) hs k
  | _ => cases hok
end AMX
