theorem am_cp : ∀ y, y < am_NM → ∃ p : Nat, lw_tbl[p]? = some (am_cw y) := by
  intro y hy
  match y, hy with
  | 0, _ => exact ⟨_, am_c_0⟩
  | 1, _ => exact ⟨_, am_c_1⟩
  | 2, _ => exact ⟨_, am_c_2⟩
  | 3, _ => exact ⟨_, am_c_3⟩
  | 4, _ => exact ⟨_, am_c_4⟩
  | 5, _ => exact ⟨_, am_c_5⟩
  | 6, _ => exact ⟨_, am_c_6⟩
  | 7, _ => exact ⟨_, am_c_7⟩
  | 8, _ => exact ⟨_, am_c_8⟩
  | 9, _ => exact ⟨_, am_c_9⟩
  | 10, _ => exact ⟨_, am_c_10⟩
  | 11, _ => exact ⟨_, am_c_11⟩
  | 12, _ => exact ⟨_, am_c_12⟩
  | 13, _ => exact ⟨_, am_c_13⟩
  | 14, _ => exact ⟨_, am_c_14⟩
  | 15, _ => exact ⟨_, am_c_15⟩
  | 16, _ => exact ⟨_, am_c_16⟩
  | 17, _ => exact ⟨_, am_c_17⟩
  | 18, _ => exact ⟨_, am_c_18⟩
  | 19, _ => exact ⟨_, am_c_19⟩
  | 20, _ => exact ⟨_, am_c_20⟩
  | 21, _ => exact ⟨_, am_c_21⟩
  | 22, _ => exact ⟨_, am_c_22⟩
  | 23, _ => exact ⟨_, am_c_23⟩
  | 24, _ => exact ⟨_, am_c_24⟩
  | 25, _ => exact ⟨_, am_c_25⟩
  | 26, _ => exact ⟨_, am_c_26⟩
  | 27, _ => exact ⟨_, am_c_27⟩
  | 28, _ => exact ⟨_, am_c_28⟩
  | 29, _ => exact ⟨_, am_c_29⟩
  | 30, _ => exact ⟨_, am_c_30⟩
  | 31, _ => exact ⟨_, am_c_31⟩
  | 32, _ => exact ⟨_, am_c_32⟩
  | 33, _ => exact ⟨_, am_c_33⟩
  | 34, _ => exact ⟨_, am_c_34⟩
  | 35, _ => exact ⟨_, am_c_35⟩
  | 36, _ => exact ⟨_, am_c_36⟩
  | 37, _ => exact ⟨_, am_c_37⟩
  | 38, _ => exact ⟨_, am_c_38⟩
  | 39, _ => exact ⟨_, am_c_39⟩
  | 40, _ => exact ⟨_, am_c_40⟩
  | 41, _ => exact ⟨_, am_c_41⟩
  | 42, _ => exact ⟨_, am_c_42⟩
  | 43, _ => exact ⟨_, am_c_43⟩
  | 44, _ => exact ⟨_, am_c_44⟩
  | 45, _ => exact ⟨_, am_c_45⟩
  | 46, _ => exact ⟨_, am_c_46⟩
  | 47, _ => exact ⟨_, am_c_47⟩
  | 48, _ => exact ⟨_, am_c_48⟩
  | 49, _ => exact ⟨_, am_c_49⟩
  | 50, _ => exact ⟨_, am_c_50⟩
  | 51, _ => exact ⟨_, am_c_51⟩
  | 52, _ => exact ⟨_, am_c_52⟩
  | 53, _ => exact ⟨_, am_c_53⟩
  | 54, _ => exact ⟨_, am_c_54⟩
  | 55, _ => exact ⟨_, am_c_55⟩
  | 56, _ => exact ⟨_, am_c_56⟩
  | 57, _ => exact ⟨_, am_c_57⟩
  | 58, _ => exact ⟨_, am_c_58⟩
  | 59, _ => exact ⟨_, am_c_59⟩
  | 60, _ => exact ⟨_, am_c_60⟩
  | 61, _ => exact ⟨_, am_c_61⟩
  | 62, _ => exact ⟨_, am_c_62⟩
  | 63, _ => exact ⟨_, am_c_63⟩
  | 64, _ => exact ⟨_, am_c_64⟩
  | 65, _ => exact ⟨_, am_c_65⟩
  | 66, _ => exact ⟨_, am_c_66⟩
  | 67, _ => exact ⟨_, am_c_67⟩
  | 68, _ => exact ⟨_, am_c_68⟩
  | 69, _ => exact ⟨_, am_c_69⟩
  | 70, _ => exact ⟨_, am_c_70⟩
  | 71, _ => exact ⟨_, am_c_71⟩
  | 72, _ => exact ⟨_, am_c_72⟩
  | 73, _ => exact ⟨_, am_c_73⟩
  | 74, _ => exact ⟨_, am_c_74⟩
  | 75, _ => exact ⟨_, am_c_75⟩
  | 76, _ => exact ⟨_, am_c_76⟩
  | 77, _ => exact ⟨_, am_c_77⟩
  | 78, _ => exact ⟨_, am_c_78⟩
  | 79, _ => exact ⟨_, am_c_79⟩
  | 80, _ => exact ⟨_, am_c_80⟩
  | 81, _ => exact ⟨_, am_c_81⟩
  | 82, _ => exact ⟨_, am_c_82⟩
  | 83, _ => exact ⟨_, am_c_83⟩
  | 84, _ => exact ⟨_, am_c_84⟩
  | 85, _ => exact ⟨_, am_c_85⟩
  | 86, _ => exact ⟨_, am_c_86⟩
  | 87, _ => exact ⟨_, am_c_87⟩
  | 88, _ => exact ⟨_, am_c_88⟩
  | 89, _ => exact ⟨_, am_c_89⟩
  | 90, _ => exact ⟨_, am_c_90⟩
  | 91, _ => exact ⟨_, am_c_91⟩
  | 92, _ => exact ⟨_, am_c_92⟩
  | 93, _ => exact ⟨_, am_c_93⟩
  | 94, _ => exact ⟨_, am_c_94⟩
  | 95, _ => exact ⟨_, am_c_95⟩
  | 96, _ => exact ⟨_, am_c_96⟩
  | 97, _ => exact ⟨_, am_c_97⟩
  | 98, _ => exact ⟨_, am_c_98⟩
  | 99, _ => exact ⟨_, am_c_99⟩
  | 100, _ => exact ⟨_, am_c_100⟩
  | 101, _ => exact ⟨_, am_c_101⟩
  | 102, _ => exact ⟨_, am_c_102⟩
  | 103, _ => exact ⟨_, am_c_103⟩
  | 104, _ => exact ⟨_, am_c_104⟩
  | 105, _ => exact ⟨_, am_c_105⟩
  | 106, _ => exact ⟨_, am_c_106⟩
  | 107, _ => exact ⟨_, am_c_107⟩
  | 108, _ => exact ⟨_, am_c_108⟩
  | 109, _ => exact ⟨_, am_c_109⟩
  | 110, _ => exact ⟨_, am_c_110⟩
  | 111, _ => exact ⟨_, am_c_111⟩
  | 112, _ => exact ⟨_, am_c_112⟩
  | 113, _ => exact ⟨_, am_c_113⟩
  | 114, _ => exact ⟨_, am_c_114⟩
  | 115, _ => exact ⟨_, am_c_115⟩
  | 116, _ => exact ⟨_, am_c_116⟩
  | 117, _ => exact ⟨_, am_c_117⟩
  | 118, _ => exact ⟨_, am_c_118⟩
  | 119, _ => exact ⟨_, am_c_119⟩
  | 120, _ => exact ⟨_, am_c_120⟩
  | 121, _ => exact ⟨_, am_c_121⟩
  | 122, _ => exact ⟨_, am_c_122⟩
  | 123, _ => exact ⟨_, am_c_123⟩
  | 124, _ => exact ⟨_, am_c_124⟩
  | 125, _ => exact ⟨_, am_c_125⟩
  | 126, _ => exact ⟨_, am_c_126⟩
  | 127, _ => exact ⟨_, am_c_127⟩
  | 128, _ => exact ⟨_, am_c_128⟩
  | 129, _ => exact ⟨_, am_c_129⟩
  | 130, _ => exact ⟨_, am_c_130⟩
  | 131, _ => exact ⟨_, am_c_131⟩
  | 132, _ => exact ⟨_, am_c_132⟩
  | 133, _ => exact ⟨_, am_c_133⟩
  | 134, _ => exact ⟨_, am_c_134⟩
  | 135, _ => exact ⟨_, am_c_135⟩
  | 136, _ => exact ⟨_, am_c_136⟩
  | 137, _ => exact ⟨_, am_c_137⟩
  | 138, _ => exact ⟨_, am_c_138⟩
  | 139, _ => exact ⟨_, am_c_139⟩
  | 140, _ => exact ⟨_, am_c_140⟩
  | 141, _ => exact ⟨_, am_c_141⟩
  | 142, _ => exact ⟨_, am_c_142⟩
  | 143, _ => exact ⟨_, am_c_143⟩
  | 144, _ => exact ⟨_, am_c_144⟩
  | 145, _ => exact ⟨_, am_c_145⟩
  | 146, _ => exact ⟨_, am_c_146⟩
  | 147, _ => exact ⟨_, am_c_147⟩
  | 148, _ => exact ⟨_, am_c_148⟩
  | 149, _ => exact ⟨_, am_c_149⟩
  | 150, _ => exact ⟨_, am_c_150⟩
  | 151, _ => exact ⟨_, am_c_151⟩
  | 152, _ => exact ⟨_, am_c_152⟩
  | 153, _ => exact ⟨_, am_c_153⟩
  | 154, _ => exact ⟨_, am_c_154⟩
  | 155, _ => exact ⟨_, am_c_155⟩
  | 156, _ => exact ⟨_, am_c_156⟩
  | 157, _ => exact ⟨_, am_c_157⟩
  | 158, _ => exact ⟨_, am_c_158⟩
  | 159, _ => exact ⟨_, am_c_159⟩
  | 160, _ => exact ⟨_, am_c_160⟩
  | 161, _ => exact ⟨_, am_c_161⟩
  | 162, _ => exact ⟨_, am_c_162⟩
  | 163, _ => exact ⟨_, am_c_163⟩
  | 164, _ => exact ⟨_, am_c_164⟩
  | 165, _ => exact ⟨_, am_c_165⟩
  | 166, _ => exact ⟨_, am_c_166⟩
  | 167, _ => exact ⟨_, am_c_167⟩
  | 168, _ => exact ⟨_, am_c_168⟩
  | 169, _ => exact ⟨_, am_c_169⟩
  | 170, _ => exact ⟨_, am_c_170⟩
  | 171, _ => exact ⟨_, am_c_171⟩
  | 172, _ => exact ⟨_, am_c_172⟩
  | 173, _ => exact ⟨_, am_c_173⟩
  | 174, _ => exact ⟨_, am_c_174⟩
  | 175, _ => exact ⟨_, am_c_175⟩
  | 176, _ => exact ⟨_, am_c_176⟩
  | 177, _ => exact ⟨_, am_c_177⟩
  | 178, _ => exact ⟨_, am_c_178⟩
  | 179, _ => exact ⟨_, am_c_179⟩
  | 180, _ => exact ⟨_, am_c_180⟩
  | 181, _ => exact ⟨_, am_c_181⟩
  | 182, _ => exact ⟨_, am_c_182⟩
  | 183, _ => exact ⟨_, am_c_183⟩
  | 184, _ => exact ⟨_, am_c_184⟩
  | 185, _ => exact ⟨_, am_c_185⟩
  | 186, _ => exact ⟨_, am_c_186⟩
  | 187, _ => exact ⟨_, am_c_187⟩
  | 188, _ => exact ⟨_, am_c_188⟩
  | 189, _ => exact ⟨_, am_c_189⟩
  | 190, _ => exact ⟨_, am_c_190⟩
  | 191, _ => exact ⟨_, am_c_191⟩
  | 192, _ => exact ⟨_, am_c_192⟩
  | 193, _ => exact ⟨_, am_c_193⟩
  | 194, _ => exact ⟨_, am_c_194⟩
  | 195, _ => exact ⟨_, am_c_195⟩
  | 196, _ => exact ⟨_, am_c_196⟩
  | 197, _ => exact ⟨_, am_c_197⟩
  | 198, _ => exact ⟨_, am_c_198⟩
  | 199, _ => exact ⟨_, am_c_199⟩
  | 200, _ => exact ⟨_, am_c_200⟩
  | 201, _ => exact ⟨_, am_c_201⟩
  | 202, _ => exact ⟨_, am_c_202⟩
  | 203, _ => exact ⟨_, am_c_203⟩
  | 204, _ => exact ⟨_, am_c_204⟩
  | 205, _ => exact ⟨_, am_c_205⟩
  | 206, _ => exact ⟨_, am_c_206⟩
  | 207, _ => exact ⟨_, am_c_207⟩
  | 208, _ => exact ⟨_, am_c_208⟩
  | 209, _ => exact ⟨_, am_c_209⟩
  | 210, _ => exact ⟨_, am_c_210⟩
  | 211, _ => exact ⟨_, am_c_211⟩
  | 212, _ => exact ⟨_, am_c_212⟩
  | 213, _ => exact ⟨_, am_c_213⟩
  | 214, _ => exact ⟨_, am_c_214⟩
  | 215, _ => exact ⟨_, am_c_215⟩
  | 216, _ => exact ⟨_, am_c_216⟩
  | 217, _ => exact ⟨_, am_c_217⟩
  | 218, _ => exact ⟨_, am_c_218⟩
  | 219, _ => exact ⟨_, am_c_219⟩
  | 220, _ => exact ⟨_, am_c_220⟩
  | 221, _ => exact ⟨_, am_c_221⟩
  | 222, _ => exact ⟨_, am_c_222⟩
  | 223, _ => exact ⟨_, am_c_223⟩
  | n + 224, h => exact absurd h (by unfold am_NM; omega)
theorem am_cw_in {y : Nat} (hy : y < am_NM) : am_cw y ∈ am_tbl := by
  obtain ⟨p, hp⟩ := am_cp y hy
  exact List.mem_filter.mpr ⟨List.mem_of_getElem? hp, rfl⟩
def am_mok (y p2 : Nat) : Bool := (match lw_tbl[p2]? with
  | some u => decide (u = .initialized (am_y y).cls) && goodWord u
  | none => false) && (decide ((am_y y).cls ≠ "java/lang/invoke/MethodHandle") && (decide ((am_y y).cls ≠ "java/lang/invoke/VarHandle") && (Nat.ble (am_nl y) 19 && plainName (am_y y).cls)))
def am_mp : List Nat := [58, 58, 58, 58, 58, 58, 58, 55, 55, 55, 55, 55, 54, 54, 54, 54, 54, 54, 54, 54, 41, 41, 41, 41, 41, 41, 41, 41, 41, 41, 41, 41, 41, 41, 45, 45, 45, 45, 45, 45, 59, 59, 59, 59, 59, 56, 56, 56, 56, 56, 56, 44, 44, 44, 44, 44, 44, 44, 44, 44, 44, 44, 44, 46, 46, 46, 46, 46, 46, 43, 43, 43, 43, 43, 43, 43, 43, 43, 43, 43, 43, 57, 57, 57, 57, 57, 57, 40, 40, 40, 40, 40, 40, 40, 40, 40, 40, 40, 40, 40, 40, 40, 40, 40, 40, 40, 40, 40, 40, 40, 40, 40, 40, 40, 40, 40, 40, 40, 40, 40, 40, 40, 40, 40, 40, 40, 40, 40, 40, 40, 40, 40, 40, 40, 40, 40, 40, 40, 40, 40, 47, 47, 47, 47, 47, 47, 47, 47, 47, 47, 47, 47, 47, 47, 47, 47, 47, 47, 47, 47, 47, 47, 47, 47, 47, 47, 47, 47, 47, 47, 47, 47, 47, 47, 47, 47, 47, 47, 47, 47, 47, 47, 47, 47, 47, 47, 47, 47, 47, 47, 47, 47, 47, 47, 47, 47, 47, 47, 47, 47, 47, 47, 47, 47, 47, 47, 47, 47, 47, 42, 60, 60, 48, 48, 48, 48, 48, 48, 48, 49, 49, 49, 49, 50]
theorem am_mok_all : (List.range am_NM).all (fun y => match am_mp[y]? with
  | some q => am_mok y q
  | none => false) = true := by decide +kernel
theorem am_mok_of {y : Nat} (hy : y < am_NM) : Cond.initialized (am_y y).cls ∈ am_tbl ∧ ((am_y y).cls ≠ "java/lang/invoke/MethodHandle" ∧ (am_y y).cls ≠ "java/lang/invoke/VarHandle") ∧ am_nl y ≤ 19 ∧ plainName (am_y y).cls = true := by
  have h := List.all_eq_true.mp am_mok_all y (List.mem_range.mpr hy)
  split at h
  · rename_i q _
    unfold am_mok at h
    simp only [Bool.and_eq_true, decide_eq_true_eq] at h
    obtain ⟨h2, h3, h4, h5, h6⟩ := h
    refine ⟨?_, ⟨h3, h4⟩, Nat.le_of_ble_eq_true h5, h6⟩
    split at h2
    · rename_i u hu
      rw [Bool.and_eq_true, decide_eq_true_eq] at h2
      rw [← h2.1]
      exact List.mem_filter.mpr ⟨List.mem_of_getElem? hu, h2.2⟩
    · cases h2
  · cases h
/-! calls and returns -/
def am_hx (ps : List Nat) (w : Cond) : Bool := ps.any (fun i => match lw_tbl[i]? with
  | some u => decide (u = w) && goodWord u
  | none => false)
theorem am_hx_mem {ps : List Nat} {w : Cond} (h : am_hx ps w = true) : w ∈ am_tbl := by
  obtain ⟨i, -, h1⟩ := List.any_eq_true.mp h
  split at h1
  · rename_i u hu
    rw [Bool.and_eq_true, decide_eq_true_eq] at h1
    obtain ⟨rfl, h2⟩ := h1
    exact List.mem_filter.mpr ⟨List.mem_of_getElem? hu, h2⟩
  · cases h1
def am_np (d : String) : Option Nat := (parseMethodDescriptor d).map (fun d => d.parameters.length)
/-- which kind a call's row is, by its int: 0 virtual, 1 virtual with overriding, 2 static, 3 static of a nest mate, 4 <init>, 5 <init> of a nest mate, 6 super's, 7 String's -/
def am_okV (own : String) (idx a : Nat) (v : Int) (ps : List Nat) (ci y : Nat) : Bool :=
  if v = 0 then (match vwCl[ci]? with
    | some r => decide (am_np (am_y y).desc = some a) && (am_hx ps (.methodLink own idx (am_y y)) && (am_hx ps (.instanceMethod (am_y y)) && am_hx ps (.selects r.1 (am_y y) (am_y y))))
    | none => false)
  else if v = 1 then (match vwCl[ci]?, am_wd ps 0, am_wd ps 1 with
    | some r, some (.methodLink _ _ x), some (.code x' b n rt) => (decide (am_np x.desc = some a) && (decide (x' = x) && (decide (x.cls ≠ "java/lang/invoke/MethodHandle") && decide (x.cls ≠ "java/lang/invoke/VarHandle")))) && (am_hx ps (.methodLink own idx x) && (am_hx ps (.sameMethod x.cls x.cls x.name x.desc) && (am_hx ps (.instanceMethod x) && (am_hx ps (.instanceMethod (am_y y)) && am_hx ps (.selects r.1 x (am_y y))))))
    | _, _, _ => false)
  else if v = 7 then decide (am_np (am_y y).desc = some a) && (am_hx ps (.methodLink own idx (am_y y)) && (am_hx ps (.instanceMethod (am_y y)) && am_hx ps (.selects "java/lang/String" (am_y y) (am_y y))))
  else false
def am_okS (own : String) (idx a : Nat) (v : Int) (ps : List Nat) (y : Nat) : Bool :=
  if v = 2 then decide (am_np (am_y y).desc = some a) && (am_hx ps (.methodLink own idx (am_y y)) && am_hx ps (.static (am_y y)))
  else if v = 3 then (match am_wd ps 0 with
    | some (.methodLinkNest _ _ _ host) => decide (am_np (am_y y).desc = some a) && (am_ha ps (.methodLinkNest own idx (am_y y) host) && am_hx ps (.static (am_y y)))
    | _ => false)
  else false
def am_okI (own : String) (idx a : Nat) (v : Int) (ps : List Nat) (y : Nat) : Bool :=
  if v = 4 then decide (am_np (am_y y).desc = some a) && (decide ((am_y y).name = "<init>") && (decide (am_rt y = none) && (am_hx ps (.methodLink own idx (am_y y)) && am_hx ps (.instanceMethod (am_y y)))))
  else if v = 5 then (match am_wd ps 0 with
    | some (.methodLinkNest _ _ _ host) => decide (am_np (am_y y).desc = some a) && (decide ((am_y y).name = "<init>") && (decide (am_rt y = none) && (am_ha ps (.methodLinkNest own idx (am_y y) host) && am_hx ps (.instanceMethod (am_y y)))))
    | _ => false)
  else if v = 6 then decide (am_np (am_y y).desc = some a) && (decide ((am_y y).name ≠ "<init>") && (am_hx ps (.methodLink own idx (am_y y)) && (am_hx ps (.sameMethod (am_y y).cls (am_y y).cls (am_y y).name (am_y y).desc) && (am_hx ps (.superclass own (am_y y).cls) && am_hx ps (.instanceMethod (am_y y))))))
  else false
def am_okt (own : String) (i : Instr) (a : Nat) (v : Int) (ps : List Nat) (q : Nat × Nat) : Bool := Nat.blt q.2 am_NM && (match i with
  | .invokevirtual idx => am_okV own idx a v ps q.1 q.2
  | .invokestatic idx => am_okS own idx a v ps q.2
  | .invokespecial idx => am_okI own idx a v ps q.2
  | _ => false)
def am_okc (own : String) (en : am_En) : Bool := match en with
  | (i, ln, a, v, tg, ps) => Nat.beq ln 3 && tg.all (am_okt own i a v ps)
/-- a call: which method, its arguments, what is left of the stack -/
def am_tgt (en : am_En) (st : List Value) (h : am_H) : Option (Nat × List Value × List Value) := match en with
  | (i, _, a, v, tg, _) => match i with
    | .invokestatic _ => match tg with
      | q :: _ => bif Nat.ble a st.length && Nat.ble (am_cats (st.drop a)) 8 then some (q.2, (st.take a).reverse, st.drop a) else none
      | [] => none
    | .invokespecial _ => match tg, st.drop a with
      | q :: _, .ref r :: rest => bif Nat.ble (am_cats rest) 8 then (match am_get h r with
        | some (.inr _) => some (q.2, .ref r :: (st.take a).reverse, rest)
        | _ => none) else none
      | _, _ => none
    | .invokevirtual _ => match st.drop a with
      | .ref r :: rest => bif Nat.ble (am_cats rest) 8 then (match am_get h r with
        | some (.inr (ci, _)) => match am_look tg ci with
          | some y => bif decide (v = 7) then none else some (y, .ref r :: (st.take a).reverse, rest)
          | none => none
        | some (.inl _) => none
        | none => match tg with
          | q :: _ => bif decide (v = 7) && (Nat.blt 0 r && Nat.blt r 7) then some (q.2, .ref r :: (st.take a).reverse, rest) else none
          | [] => none) else none
      | _ => none
    | _ => none
def am_kd (en : am_En) : Nat := match en with
  | (i, _, _, _, tg, _) => match i with
    | .invokevirtual _ => 1
    | .invokestatic _ => match tg with
      | [] => 0
      | _ :: _ => 1
    | .invokespecial _ => match tg with
      | [] => 0
      | _ :: _ => 1
    | .ireturn => 2
    | .lreturn => 2
    | .areturn => 2
    | .return_ => 2
    | _ => 0
def am_ret (en : am_En) (st : List Value) : Option (Option Value) := match en with
  | (i, _, a, _, _, _) => match i, st with
    | .return_, [] => some none
    | .ireturn, [.int x] => bif Nat.beq a 0 then some (some (.int x)) else bif Nat.beq a 2 then (bif decide (0 ≤ x.toInt) && decide (x.toInt < 65536) then some (some (.int x)) else none) else bif Nat.beq a 3 then (bif decide (x = 0) then some (some (.int x)) else none) else (bif x == 0 || x == 1 then some (some (.int x)) else none)
    | .lreturn, [.long x] => some (some (.long x))
    | .areturn, [.ref q] => some (some (.ref q))
    | .areturn, [.null] => some (some .null)
    | _, _ => none
def am_okr (rt : Option FieldType) (en : am_En) : Bool := match en with
  | (i, ln, a, _, _, _) => Nat.beq ln 1 && (match i with
    | .return_ => decide (rt = none)
    | .ireturn => (Nat.beq a 0 && decide (rt = some .int)) || (Nat.beq a 1 && decide (rt = some .boolean)) || (Nat.beq a 2 && decide (rt = some .char)) || (Nat.beq a 3 && decide (rt = some .byte))
    | .lreturn => decide (rt = some .long)
    | .areturn => match rt with
      | some (.object _) => true
      | some (.array _) => true
      | _ => false
    | _ => false)
def am_ex : List Value → am_L
  | [] => []
  | v :: t => bif Nat.beq v.category 2 then some v :: none :: am_ex t else some v :: am_ex t
def am_ent (nl : Nat) (vs : List Value) : am_L := am_ex vs ++ List.replicate (nl - (am_ex vs).length) none
def am_Run (xs : Nat → Int32) (LL : Nat) (C : Nat → Option am_En) (K : Nat → List Value → am_H → Option Value → am_H → Prop) : Nat → Nat → am_L → List Value → am_H → Option Value → am_H → Prop
  | 0, _, _, _, _, _, _ => False
  | f + 1, pc, L, st, h, r, h' => ∃ en, C pc = some en ∧ (match am_kd en with
    | 0 => ∃ S, am_step xs LL en pc L st h = some S ∧ am_Run xs LL C K f S.1 S.2.1 S.2.2.1 S.2.2.2 r h'
    | 1 => ∃ y vs rest v h1, am_tgt en st h = some (y, vs, rest) ∧ K y vs h v h1 ∧ am_Run xs LL C K f (pc + 3) L (v.toList ++ rest) h1 r h'
    | _ => am_ret en st = some r ∧ h' = h)
theorem am_Run_le {xs : Nat → Int32} {LL : Nat} {C : Nat → Option am_En} {K : Nat → List Value → am_H → Option Value → am_H → Prop} (hK : ∀ y vs h v h1, K y vs h v h1 → am_le h h1) : ∀ (f pc : Nat) (L : am_L) (st : List Value) (h : am_H) (r : Option Value) (h' : am_H), am_Run xs LL C K f pc L st h r h' → am_le h h' := by
  intro f
  induction f with
  | zero => intro pc L st h r h' hr; exact hr.elim
  | succ f ih =>
    intro pc L st h r h' hr
    obtain ⟨en, -, hr⟩ := hr
    split at hr
    · obtain ⟨S, h1, h2⟩ := hr
      exact am_le_tr (am_step_le h1) (ih _ _ _ _ _ _ h2)
    · obtain ⟨y, vs, rest, v, h1, -, h3, h4⟩ := hr
      exact am_le_tr (hK _ _ _ _ _ h3) (ih _ _ _ _ _ _ h4)
    · rw [hr.2]; exact am_le_rf _
