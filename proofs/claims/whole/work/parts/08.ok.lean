/-! what a program checks of a row of code -/
def am_wd (ps : List Nat) (j : Nat) : Option Cond := match ps[j]? with
  | some i => lw_tbl[i]?
  | none => none
def am_hw (ps : List Nat) (j : Nat) (w : Cond) : Bool := match am_wd ps j with
  | some u => decide (u = w) && goodWord u
  | none => false
theorem am_wd_mem {ps : List Nat} {j : Nat} {w : Cond} (h : am_wd ps j = some w) : w ∈ lw_tbl := by
  unfold am_wd at h
  split at h
  · exact List.mem_of_getElem? h
  · cases h
theorem am_hw_mem {ps : List Nat} {j : Nat} {w : Cond} (h : am_hw ps j w = true) : w ∈ am_tbl := by
  unfold am_hw at h
  split at h
  · rename_i u hu
    rw [Bool.and_eq_true, decide_eq_true_eq] at h
    obtain ⟨rfl, h⟩ := h
    exact List.mem_filter.mpr ⟨am_wd_mem hu, h⟩
  · cases h
def am_ha (ps : List Nat) (w : Cond) : Bool := ps.any (fun i => match lw_tbl[i]? with
  | some u => decide (u = w) && am_stkW u
  | none => false)
theorem am_ha_mem {ps : List Nat} {w : Cond} (h : am_ha ps w = true) : w ∈ am_stk := by
  obtain ⟨i, -, h1⟩ := List.any_eq_true.mp h
  split at h1
  · rename_i u hu
    rw [Bool.and_eq_true, decide_eq_true_eq] at h1
    obtain ⟨rfl, h2⟩ := h1
    exact List.mem_filter.mpr ⟨List.mem_of_getElem? hu, h2⟩
  · cases h1
def am_fldb (own : String) (idx k : Nat) (ps : List Nat) (ci : Nat) : Bool := match vwCl[ci]?, am_wd ps 0 with
  | some (C, T, N), some (.fieldLink o i ref nm ds) => decide (k < N) && (am_hw ps 0 (.fieldLink own idx ref (T k).2.1 (T k).2.2.1) && (decide (ref = (T k).1) || am_hw ps 1 (.sameField ref (T k).1 (T k).2.1 (T k).2.2.1)))
  | _, _ => false
theorem am_fldb_of {own : String} {idx k ci : Nat} {ps : List Nat} (h : am_fldb own idx k ps ci = true) : am_fld own idx k ci := by
  unfold am_fldb at h
  split at h
  · rename_i C T N o i ref nm ds e1 e2
    simp only [Bool.and_eq_true, Bool.or_eq_true, decide_eq_true_eq] at h
    exact ⟨C, T, N, ref, e1, h.1, am_hw_mem h.2.1, h.2.2.imp id am_hw_mem⟩
  · cases h
def am_pfdb (own yn : String) (v : Int) (k ci : Nat) : Bool := match vwCl[ci]? with
  | some (C, T, N) => (decide ((T k).2.2.2 = false) || (decide ((T k).2.2.2 = true) && (decide (yn = "<init>") && decide ((T k).1 = own)))) && (match am_ty ci k with
    | .int => decide (v = 0)
    | .boolean => decide (v = 1)
    | .object _ => decide (v = 2)
    | .array _ => decide (v = 2)
    | _ => false)
  | none => false
theorem am_pfdb_of {own yn : String} {v : Int} {k ci : Nat} (h : am_pfdb own yn v k ci = true) : am_pfd own yn v k ci := by
  unfold am_pfdb at h
  split at h
  · rename_i C T N e1
    rw [Bool.and_eq_true] at h
    obtain ⟨h1, h2⟩ := h
    simp only [Bool.and_eq_true, Bool.or_eq_true, decide_eq_true_eq] at h1
    refine ⟨C, T, N, e1, h1, ?_⟩
    split at h2
    · rename_i e; exact Or.inl ⟨of_decide_eq_true h2, e⟩
    · rename_i e; exact Or.inr (Or.inl ⟨of_decide_eq_true h2, e⟩)
    · rename_i n e; exact Or.inr (Or.inr ⟨of_decide_eq_true h2, Or.inl ⟨n, e⟩⟩)
    · rename_i t e; exact Or.inr (Or.inr ⟨of_decide_eq_true h2, Or.inr ⟨t, e⟩⟩)
    · cases h2
  · cases h
def am_newb (own : String) (idx ci : Nat) (ps : List Nat) : Bool := match vwCl[ci]? with
  | some (C, T, N) => am_hw ps 0 (.classLink own idx C) && (am_hw ps 1 (.instantiable C N) && am_hw ps 2 (.initialized C))
  | none => false
theorem am_newb_of {own : String} {idx ci : Nat} {ps : List Nat} (h : am_newb own idx ci ps = true) : am_new own idx ci := by
  unfold am_newb at h
  split at h
  · rename_i C T N e1
    simp only [Bool.and_eq_true] at h
    exact ⟨C, T, N, e1, am_hw_mem h.1, am_hw_mem h.2.1, am_hw_mem h.2.2⟩
  · cases h
def am_ascb (ps : List Nat) (ci t : Nat) : Bool := match vwCl[ci]? with
  | some r0 => decide (r0.1 = (if t = 2 then RX2 else RX8)) || am_ha ps (.castable r0.1 (if t = 2 then RX2 else RX8))
  | none => false
theorem am_ascb_of {ci t : Nat} {ps : List Nat} (h : am_ascb ps ci t = true) : am_asc ci t := by
  unfold am_ascb at h
  split at h
  · rename_i r0 e1
    simp only [Bool.or_eq_true, decide_eq_true_eq] at h
    exact ⟨r0, e1, h.imp id am_ha_mem⟩
  · cases h
def am_insb (own : String) (idx : Nat) (ps : List Nat) (ci r : Nat) : Bool := match vwCl[ci]?, am_wd ps 0 with
  | some q, some (.classLink o i nm) => am_hw ps 0 (.classLink own idx nm) && ((decide (r = 0) && decide ((q.1, nm) ∈ am_nc)) || (decide (r = 1) && (decide (q.1 = nm) || am_ha ps (.castable q.1 nm))))
  | _, _ => false
theorem am_insb_of {own : String} {idx ci r : Nat} {ps : List Nat} (h : am_insb own idx ps ci r = true) : am_ins own idx ci r := by
  unfold am_insb at h
  split at h
  · rename_i q o i nm e1 e2
    simp only [Bool.and_eq_true, Bool.or_eq_true, decide_eq_true_eq] at h
    exact ⟨q, nm, e1, am_hw_mem h.1, h.2.imp id (fun z => ⟨z.1, z.2.imp id am_ha_mem⟩)⟩
  · cases h
def am_off (pc a : Nat) (off : Int) : Bool := decide ((pc : Int) + off = (a : Int))
def am_ok (own yn : String) (nL pc : Nat) (en : am_En) : Bool := match en with
  | (i, ln, a, v, tg, ps) => match i with
    | .iconst _ | .lconst _ | .aconst_null | .iload_n _ | .lload_n _ | .aload_n _ | .dup | .dup_x1 | .dup2 | .l2i | .i2c | .pop | .ineg | .i2l | .i2b | .i2s => Nat.beq ln 1
    | .iadd | .isub | .imul | .idiv | .iand | .ior | .ixor | .ishl | .ishr | .iushr | .ladd | .lmul | .land | .lor | .lrem | .lcmp | .lshl | .lshr | .lushr => Nat.beq ln 1
    | .arraylength | .iaload | .baload | .aaload | .iastore | .bastore => Nat.beq ln 1
    | .bipush _ | .iload _ | .lload _ | .aload _ => Nat.beq ln 2
    | .sipush _ => Nat.beq ln 3
    | .ldc idx => Nat.beq ln 2 && (match tg with
      | [] => am_hw ps 0 (.constant own idx (Int32.ofInt v))
      | q :: _ => decide (own = RX9) && (am_strs.any (fun t => decide (t.1 = idx) && decide (t.2.2 = q.1)) && (decide (0 < q.1) && decide (q.1 < 7))))
    | .ldc_w idx => Nat.beq ln 3 && am_hw ps 0 (.constant own idx (Int32.ofInt v))
    | .ldc2_w idx => Nat.beq ln 3 && am_hw ps 0 (.constantLong own idx (Int64.ofInt v))
    | .istore_n k => Nat.beq ln 1 && decide ((k : Nat) < nL)
    | .astore_n k => Nat.beq ln 1 && decide ((k : Nat) < nL)
    | .istore k => Nat.beq ln 2 && decide (k < nL)
    | .astore k => Nat.beq ln 2 && decide (k < nL)
    | .lstore_n k => Nat.beq ln 1 && decide ((k : Nat) + 1 < nL)
    | .lstore k => Nat.beq ln 2 && decide (k + 1 < nL)
    | .iinc k _ => Nat.beq ln 3 && decide (k < nL)
    | .ifCond _ off => Nat.beq ln 3 && am_off pc a off
    | .if_icmp _ off => Nat.beq ln 3 && am_off pc a off
    | .goto off => Nat.beq ln 3 && am_off pc a off
    | .ifnull off => Nat.beq ln 3 && am_off pc a off
    | .ifnonnull off => Nat.beq ln 3 && am_off pc a off
    | .tableswitch d lo hi offs => decide (0 ≤ d) && (offs.toList.all (fun o => decide (0 ≤ o)) && decide (hi - lo < (offs.size : Int)))
    | .lookupswitch d qs => decide (0 ≤ d) && (qs.toList.all (fun q => decide (0 ≤ q.2)) && (qs.toList.zip (qs.toList.drop 1)).all (fun (a, next) => decide (a.1 < next.1)))
    | .getfield idx => Nat.beq ln 3 && (tg.all (fun q => am_fldb own idx a ps q.1) && (decide (v ≠ 9) || ((Nat.beq a 0 && am_hw ps 0 (.fieldLink own idx "java/lang/String" "value" "[B")) || (Nat.beq a 1 && am_hw ps 0 (.fieldLink own idx "java/lang/String" "coder" "B")))))
    | .getstatic idx => Nat.beq ln 3 && ((Nat.beq a 0 && am_hw ps 0 (.fieldLink own idx "java/lang/String" "COMPACT_STRINGS" "Z")) || (Nat.beq a 1 && am_hw ps 0 (.fieldLink own idx "jdk/internal/util/Preconditions" "SIOOBE_FORMATTER" "Ljava/util/function/BiFunction;")))
    | .putfield idx => Nat.beq ln 3 && tg.all (fun q => am_fldb own idx a ps q.1 && am_pfdb own yn v a q.1)
    | .aastore => Nat.beq ln 1 && tg.all (fun q => am_ascb ps q.1 q.2)
    | .new idx => Nat.beq ln 3 && am_newb own idx a ps
    | .newarray .int => Nat.beq ln 2 && (Nat.beq a 0 && am_hw ps 0 (.arrayClass .int))
    | .newarray .boolean => Nat.beq ln 2 && (Nat.beq a 1 && am_hw ps 0 (.arrayClass .boolean))
    | .anewarray idx => Nat.beq ln 3 && ((Nat.beq a 2 && (am_hw ps 0 (.classLink own idx RX2) && am_ha ps (.arrayOver (.object RX2)))) || (Nat.beq a 3 && (am_hw ps 0 (.classLink own idx RX8) && am_ha ps (.arrayOver (.object RX8)))))
    | .instanceof idx => Nat.beq ln 3 && tg.all (fun q => am_insb own idx ps q.1 q.2)
    | .invokespecial idx => Nat.beq ln 3 && (am_hw ps 0 (.methodLink own idx objectInit) && (am_hw ps 1 (.instanceMethod objectInit) && am_hw ps 2 (.code objectInit ⟨#[0xb1]⟩ 1 none)))
    | .invokestatic idx => Nat.beq ln 3 && ((decide (v = 0) && (am_hw ps 0 (.methodLink own idx arraycopyName) && (am_hw ps 1 (.native arraycopyName) && (am_hw ps 2 (.static arraycopyName) && am_hw ps 3 (.initialized "java/lang/System"))))) ||
      ((decide (v = 1) && (am_hw ps 0 (.methodLink own idx Lib.Math.max.name) && (am_hw ps 1 (.static Lib.Math.max.name) && (am_hw ps 2 (.initialized "java/lang/Math") && am_hw ps 3 (.code Lib.Math.max.name Lib.Math.max.code 2 (some .int)))))) ||
      (decide (v = 2) && (am_hw ps 0 (.methodLink own idx Lib.Math.min.name) && (am_hw ps 1 (.static Lib.Math.min.name) && (am_hw ps 2 (.initialized "java/lang/Math") && am_hw ps 3 (.code Lib.Math.min.name Lib.Math.min.code 2 (some .int))))))))
    | _ => false
