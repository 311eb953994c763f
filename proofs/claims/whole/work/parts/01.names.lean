-- ===== PART A: goes FIRST, ahead of the names: the tables' words, and 'selects' of the private methods out of them =====
/-- a private method of a class that the tables say can be made, by its rows of tables_1 -/
def lw_okq (q : MethodName × Nat) : Prop := (q.1.cls ≠ "java/lang/invoke/MethodHandle" ∧ q.1.cls ≠ "java/lang/invoke/VarHandle") ∧ Cond.instantiable q.1.cls q.2 ∈ tables_1 ∧ Cond.privateMethod q.1 ∈ tables_1 ∧ Cond.instanceMethod q.1 ∈ tables_1
theorem lw_p0 : lw_okq (⟨"PointHouse", "forgetSets", "()V"⟩, 9) := ⟨⟨by decide +kernel, by decide +kernel⟩, List.mem_of_getElem? (i := 24) (by decide +kernel), List.mem_of_getElem? (i := 191) (by decide +kernel), List.mem_of_getElem? (i := 192) (by decide +kernel)⟩
theorem lw_p1 : lw_okq (⟨"PointHouse$Tape", "matched", "(Ljava/lang/String;)I"⟩, 2) := ⟨⟨by decide +kernel, by decide +kernel⟩, List.mem_of_getElem? (i := 63) (by decide +kernel), List.mem_of_getElem? (i := 281) (by decide +kernel), List.mem_of_getElem? (i := 282) (by decide +kernel)⟩
theorem lw_p2 : lw_okq (⟨"PointHouse", "lineOfTape", "(I)LPointHouse$Give;"⟩, 9) := ⟨⟨by decide +kernel, by decide +kernel⟩, List.mem_of_getElem? (i := 24) (by decide +kernel), List.mem_of_getElem? (i := 346) (by decide +kernel), List.mem_of_getElem? (i := 347) (by decide +kernel)⟩
theorem lw_p3 : lw_okq (⟨"PointHouse", "lineAt", "(I)LPointHouse$Give;"⟩, 9) := ⟨⟨by decide +kernel, by decide +kernel⟩, List.mem_of_getElem? (i := 24) (by decide +kernel), List.mem_of_getElem? (i := 562) (by decide +kernel), List.mem_of_getElem? (i := 563) (by decide +kernel)⟩
theorem lw_p4 : lw_okq (⟨"PointHouse$Sets", "kindOfPoint", "(I)I"⟩, 8) := ⟨⟨by decide +kernel, by decide +kernel⟩, List.mem_of_getElem? (i := 79) (by decide +kernel), List.mem_of_getElem? (i := 674) (by decide +kernel), List.mem_of_getElem? (i := 675) (by decide +kernel)⟩
theorem lw_p5 : lw_okq (⟨"PointHouse$Sets", "settle", "(I)Z"⟩, 8) := ⟨⟨by decide +kernel, by decide +kernel⟩, List.mem_of_getElem? (i := 79) (by decide +kernel), List.mem_of_getElem? (i := 725) (by decide +kernel), List.mem_of_getElem? (i := 726) (by decide +kernel)⟩
theorem lw_p6 : lw_okq (⟨"PointHouse$Sets", "noteRound", "(III)V"⟩, 8) := ⟨⟨by decide +kernel, by decide +kernel⟩, List.mem_of_getElem? (i := 79) (by decide +kernel), List.mem_of_getElem? (i := 729) (by decide +kernel), List.mem_of_getElem? (i := 730) (by decide +kernel)⟩
theorem lw_p7 : lw_okq (⟨"PointHouse", "workOfLinesOn", "()I"⟩, 9) := ⟨⟨by decide +kernel, by decide +kernel⟩, List.mem_of_getElem? (i := 24) (by decide +kernel), List.mem_of_getElem? (i := 781) (by decide +kernel), List.mem_of_getElem? (i := 782) (by decide +kernel)⟩
theorem lw_p8 : lw_okq (⟨"PointHouse", "objectsOn", "()I"⟩, 9) := ⟨⟨by decide +kernel, by decide +kernel⟩, List.mem_of_getElem? (i := 24) (by decide +kernel), List.mem_of_getElem? (i := 786) (by decide +kernel), List.mem_of_getElem? (i := 787) (by decide +kernel)⟩
theorem lw_p9 : lw_okq (⟨"PointHouse", "flowFrom", "(IZ)I"⟩, 9) := ⟨⟨by decide +kernel, by decide +kernel⟩, List.mem_of_getElem? (i := 24) (by decide +kernel), List.mem_of_getElem? (i := 822) (by decide +kernel), List.mem_of_getElem? (i := 823) (by decide +kernel)⟩
theorem lw_p10 : lw_okq (⟨"PointHouse", "isHeldElsewhere", "(LPointHouse$Give;LPointHouse$Sets;)Z"⟩, 9) := ⟨⟨by decide +kernel, by decide +kernel⟩, List.mem_of_getElem? (i := 24) (by decide +kernel), List.mem_of_getElem? (i := 834) (by decide +kernel), List.mem_of_getElem? (i := 835) (by decide +kernel)⟩
theorem lw_p11 : lw_okq (⟨"PointHouse", "linesOn", "()I"⟩, 9) := ⟨⟨by decide +kernel, by decide +kernel⟩, List.mem_of_getElem? (i := 24) (by decide +kernel), List.mem_of_getElem? (i := 938) (by decide +kernel), List.mem_of_getElem? (i := 939) (by decide +kernel)⟩
theorem lw_p12 : lw_okq (⟨"PointHouse", "sheetAt", "(I)LPointHouse$Sheet;"⟩, 9) := ⟨⟨by decide +kernel, by decide +kernel⟩, List.mem_of_getElem? (i := 24) (by decide +kernel), List.mem_of_getElem? (i := 946) (by decide +kernel), List.mem_of_getElem? (i := 947) (by decide +kernel)⟩
theorem lw_p13 : lw_okq (⟨"PointHouseModel", "isKind", "(I)Z"⟩, 37) := ⟨⟨by decide +kernel, by decide +kernel⟩, List.mem_of_getElem? (i := 993) (by decide +kernel), List.mem_of_getElem? (i := 1115) (by decide +kernel), List.mem_of_getElem? (i := 1116) (by decide +kernel)⟩
theorem lw_p14 : lw_okq (⟨"PointHouseModel", "aimOf", "(II)I"⟩, 37) := ⟨⟨by decide +kernel, by decide +kernel⟩, List.mem_of_getElem? (i := 993) (by decide +kernel), List.mem_of_getElem? (i := 1136) (by decide +kernel), List.mem_of_getElem? (i := 1137) (by decide +kernel)⟩
theorem lw_p15 : lw_okq (⟨"PointHouseModel", "isUnder", "(II)Z"⟩, 37) := ⟨⟨by decide +kernel, by decide +kernel⟩, List.mem_of_getElem? (i := 993) (by decide +kernel), List.mem_of_getElem? (i := 1149) (by decide +kernel), List.mem_of_getElem? (i := 1150) (by decide +kernel)⟩
def lw_privs_1 : List (MethodName × Nat) := [(⟨"PointHouse", "forgetSets", "()V"⟩, 9), (⟨"PointHouse$Tape", "matched", "(Ljava/lang/String;)I"⟩, 2), (⟨"PointHouse", "lineOfTape", "(I)LPointHouse$Give;"⟩, 9), (⟨"PointHouse", "lineAt", "(I)LPointHouse$Give;"⟩, 9), (⟨"PointHouse$Sets", "kindOfPoint", "(I)I"⟩, 8), (⟨"PointHouse$Sets", "settle", "(I)Z"⟩, 8), (⟨"PointHouse$Sets", "noteRound", "(III)V"⟩, 8), (⟨"PointHouse", "workOfLinesOn", "()I"⟩, 9), (⟨"PointHouse", "objectsOn", "()I"⟩, 9), (⟨"PointHouse", "flowFrom", "(IZ)I"⟩, 9), (⟨"PointHouse", "isHeldElsewhere", "(LPointHouse$Give;LPointHouse$Sets;)Z"⟩, 9), (⟨"PointHouse", "linesOn", "()I"⟩, 9), (⟨"PointHouse", "sheetAt", "(I)LPointHouse$Sheet;"⟩, 9), (⟨"PointHouseModel", "isKind", "(I)Z"⟩, 37), (⟨"PointHouseModel", "aimOf", "(II)I"⟩, 37), (⟨"PointHouseModel", "isUnder", "(II)Z"⟩, 37)]
theorem lw_r1 : ∀ q ∈ lw_privs_1, lw_okq q := List.forall_mem_cons.mpr ⟨lw_p0, List.forall_mem_cons.mpr ⟨lw_p1, List.forall_mem_cons.mpr ⟨lw_p2, List.forall_mem_cons.mpr ⟨lw_p3, List.forall_mem_cons.mpr ⟨lw_p4, List.forall_mem_cons.mpr ⟨lw_p5, List.forall_mem_cons.mpr ⟨lw_p6, List.forall_mem_cons.mpr ⟨lw_p7, List.forall_mem_cons.mpr ⟨lw_p8, List.forall_mem_cons.mpr ⟨lw_p9, List.forall_mem_cons.mpr ⟨lw_p10, List.forall_mem_cons.mpr ⟨lw_p11, List.forall_mem_cons.mpr ⟨lw_p12, List.forall_mem_cons.mpr ⟨lw_p13, List.forall_mem_cons.mpr ⟨lw_p14, List.forall_mem_cons.mpr ⟨lw_p15, fun _ h => absurd h List.not_mem_nil⟩⟩⟩⟩⟩⟩⟩⟩⟩⟩⟩⟩⟩⟩⟩⟩
theorem lw_p16 : lw_okq (⟨"PointHouseModel", "read", "(I)V"⟩, 37) := ⟨⟨by decide +kernel, by decide +kernel⟩, List.mem_of_getElem? (i := 993) (by decide +kernel), List.mem_of_getElem? (i := 1164) (by decide +kernel), List.mem_of_getElem? (i := 1165) (by decide +kernel)⟩
theorem lw_p17 : lw_okq (⟨"PointHouseModel", "one", "(II)I"⟩, 37) := ⟨⟨by decide +kernel, by decide +kernel⟩, List.mem_of_getElem? (i := 993) (by decide +kernel), List.mem_of_getElem? (i := 1168) (by decide +kernel), List.mem_of_getElem? (i := 1169) (by decide +kernel)⟩
theorem lw_p18 : lw_okq (⟨"PointHouseModel", "here", "()I"⟩, 37) := ⟨⟨by decide +kernel, by decide +kernel⟩, List.mem_of_getElem? (i := 993) (by decide +kernel), List.mem_of_getElem? (i := 1172) (by decide +kernel), List.mem_of_getElem? (i := 1173) (by decide +kernel)⟩
theorem lw_p19 : lw_okq (⟨"PointHouseModel", "sign", "(I)V"⟩, 37) := ⟨⟨by decide +kernel, by decide +kernel⟩, List.mem_of_getElem? (i := 993) (by decide +kernel), List.mem_of_getElem? (i := 1176) (by decide +kernel), List.mem_of_getElem? (i := 1177) (by decide +kernel)⟩
theorem lw_p20 : lw_okq (⟨"PointHouseModel", "readBehind", "(I)V"⟩, 37) := ⟨⟨by decide +kernel, by decide +kernel⟩, List.mem_of_getElem? (i := 993) (by decide +kernel), List.mem_of_getElem? (i := 1180) (by decide +kernel), List.mem_of_getElem? (i := 1181) (by decide +kernel)⟩
theorem lw_p21 : lw_okq (⟨"PointHouseModel", "isLine", "(I)Z"⟩, 37) := ⟨⟨by decide +kernel, by decide +kernel⟩, List.mem_of_getElem? (i := 993) (by decide +kernel), List.mem_of_getElem? (i := 1188) (by decide +kernel), List.mem_of_getElem? (i := 1189) (by decide +kernel)⟩
theorem lw_p22 : lw_okq (⟨"PointHouseModel", "workOut", "(ZI)V"⟩, 37) := ⟨⟨by decide +kernel, by decide +kernel⟩, List.mem_of_getElem? (i := 993) (by decide +kernel), List.mem_of_getElem? (i := 1210) (by decide +kernel), List.mem_of_getElem? (i := 1211) (by decide +kernel)⟩
theorem lw_p23 : lw_okq (⟨"PointHouseModel", "begin", "(ZI)V"⟩, 37) := ⟨⟨by decide +kernel, by decide +kernel⟩, List.mem_of_getElem? (i := 993) (by decide +kernel), List.mem_of_getElem? (i := 1214) (by decide +kernel), List.mem_of_getElem? (i := 1215) (by decide +kernel)⟩
theorem lw_p24 : lw_okq (⟨"PointHouseModel", "round", "()Z"⟩, 37) := ⟨⟨by decide +kernel, by decide +kernel⟩, List.mem_of_getElem? (i := 993) (by decide +kernel), List.mem_of_getElem? (i := 1218) (by decide +kernel), List.mem_of_getElem? (i := 1219) (by decide +kernel)⟩
theorem lw_p25 : lw_okq (⟨"PointHouseModel", "allows", "(I)V"⟩, 37) := ⟨⟨by decide +kernel, by decide +kernel⟩, List.mem_of_getElem? (i := 993) (by decide +kernel), List.mem_of_getElem? (i := 1222) (by decide +kernel), List.mem_of_getElem? (i := 1223) (by decide +kernel)⟩
theorem lw_p26 : lw_okq (⟨"PointHouseModel", "ofKind", "(II)I"⟩, 37) := ⟨⟨by decide +kernel, by decide +kernel⟩, List.mem_of_getElem? (i := 993) (by decide +kernel), List.mem_of_getElem? (i := 1226) (by decide +kernel), List.mem_of_getElem? (i := 1227) (by decide +kernel)⟩
theorem lw_p27 : lw_okq (⟨"PointHouseModel", "kindFor", "(I)I"⟩, 37) := ⟨⟨by decide +kernel, by decide +kernel⟩, List.mem_of_getElem? (i := 993) (by decide +kernel), List.mem_of_getElem? (i := 1230) (by decide +kernel), List.mem_of_getElem? (i := 1231) (by decide +kernel)⟩
theorem lw_p28 : lw_okq (⟨"PointHouseModel", "kindOf", "(I)I"⟩, 37) := ⟨⟨by decide +kernel, by decide +kernel⟩, List.mem_of_getElem? (i := 993) (by decide +kernel), List.mem_of_getElem? (i := 1234) (by decide +kernel), List.mem_of_getElem? (i := 1235) (by decide +kernel)⟩
theorem lw_p29 : lw_okq (⟨"PointHouseModel", "calls", "(I)V"⟩, 37) := ⟨⟨by decide +kernel, by decide +kernel⟩, List.mem_of_getElem? (i := 993) (by decide +kernel), List.mem_of_getElem? (i := 1241) (by decide +kernel), List.mem_of_getElem? (i := 1242) (by decide +kernel)⟩
theorem lw_p30 : lw_okq (⟨"PointHouseModel", "isObject", "(I)Z"⟩, 37) := ⟨⟨by decide +kernel, by decide +kernel⟩, List.mem_of_getElem? (i := 993) (by decide +kernel), List.mem_of_getElem? (i := 1249) (by decide +kernel), List.mem_of_getElem? (i := 1250) (by decide +kernel)⟩
theorem lw_p31 : lw_okq (⟨"PointHouseModel", "workOfAll", "()I"⟩, 37) := ⟨⟨by decide +kernel, by decide +kernel⟩, List.mem_of_getElem? (i := 993) (by decide +kernel), List.mem_of_getElem? (i := 1277) (by decide +kernel), List.mem_of_getElem? (i := 1278) (by decide +kernel)⟩
def lw_privs_2 : List (MethodName × Nat) := [(⟨"PointHouseModel", "read", "(I)V"⟩, 37), (⟨"PointHouseModel", "one", "(II)I"⟩, 37), (⟨"PointHouseModel", "here", "()I"⟩, 37), (⟨"PointHouseModel", "sign", "(I)V"⟩, 37), (⟨"PointHouseModel", "readBehind", "(I)V"⟩, 37), (⟨"PointHouseModel", "isLine", "(I)Z"⟩, 37), (⟨"PointHouseModel", "workOut", "(ZI)V"⟩, 37), (⟨"PointHouseModel", "begin", "(ZI)V"⟩, 37), (⟨"PointHouseModel", "round", "()Z"⟩, 37), (⟨"PointHouseModel", "allows", "(I)V"⟩, 37), (⟨"PointHouseModel", "ofKind", "(II)I"⟩, 37), (⟨"PointHouseModel", "kindFor", "(I)I"⟩, 37), (⟨"PointHouseModel", "kindOf", "(I)I"⟩, 37), (⟨"PointHouseModel", "calls", "(I)V"⟩, 37), (⟨"PointHouseModel", "isObject", "(I)Z"⟩, 37), (⟨"PointHouseModel", "workOfAll", "()I"⟩, 37)]
theorem lw_r2 : ∀ q ∈ lw_privs_2, lw_okq q := List.forall_mem_cons.mpr ⟨lw_p16, List.forall_mem_cons.mpr ⟨lw_p17, List.forall_mem_cons.mpr ⟨lw_p18, List.forall_mem_cons.mpr ⟨lw_p19, List.forall_mem_cons.mpr ⟨lw_p20, List.forall_mem_cons.mpr ⟨lw_p21, List.forall_mem_cons.mpr ⟨lw_p22, List.forall_mem_cons.mpr ⟨lw_p23, List.forall_mem_cons.mpr ⟨lw_p24, List.forall_mem_cons.mpr ⟨lw_p25, List.forall_mem_cons.mpr ⟨lw_p26, List.forall_mem_cons.mpr ⟨lw_p27, List.forall_mem_cons.mpr ⟨lw_p28, List.forall_mem_cons.mpr ⟨lw_p29, List.forall_mem_cons.mpr ⟨lw_p30, List.forall_mem_cons.mpr ⟨lw_p31, fun _ h => absurd h List.not_mem_nil⟩⟩⟩⟩⟩⟩⟩⟩⟩⟩⟩⟩⟩⟩⟩⟩
theorem lw_p32 : lw_okq (⟨"PointHouseModel", "aimsOf", "(I)I"⟩, 37) := ⟨⟨by decide +kernel, by decide +kernel⟩, List.mem_of_getElem? (i := 993) (by decide +kernel), List.mem_of_getElem? (i := 1289) (by decide +kernel), List.mem_of_getElem? (i := 1290) (by decide +kernel)⟩
theorem lw_p33 : lw_okq (⟨"PointHouseModel", "reached", "(I)I"⟩, 37) := ⟨⟨by decide +kernel, by decide +kernel⟩, List.mem_of_getElem? (i := 993) (by decide +kernel), List.mem_of_getElem? (i := 1310) (by decide +kernel), List.mem_of_getElem? (i := 1311) (by decide +kernel)⟩
theorem lw_p34 : lw_okq (⟨"PointHouseModel", "isRace", "(II)Z"⟩, 37) := ⟨⟨by decide +kernel, by decide +kernel⟩, List.mem_of_getElem? (i := 993) (by decide +kernel), List.mem_of_getElem? (i := 1322) (by decide +kernel), List.mem_of_getElem? (i := 1323) (by decide +kernel)⟩
theorem lw_p35 : lw_okq (⟨"PointHouseModel", "isMoving", "(I)Z"⟩, 37) := ⟨⟨by decide +kernel, by decide +kernel⟩, List.mem_of_getElem? (i := 993) (by decide +kernel), List.mem_of_getElem? (i := 1326) (by decide +kernel), List.mem_of_getElem? (i := 1327) (by decide +kernel)⟩
theorem lw_p36 : lw_okq (⟨"PointHouseModel", "base", "(I)I"⟩, 37) := ⟨⟨by decide +kernel, by decide +kernel⟩, List.mem_of_getElem? (i := 993) (by decide +kernel), List.mem_of_getElem? (i := 1330) (by decide +kernel), List.mem_of_getElem? (i := 1331) (by decide +kernel)⟩
theorem lw_p37 : lw_okq (⟨"PointHouseModel", "does", "(I)Z"⟩, 37) := ⟨⟨by decide +kernel, by decide +kernel⟩, List.mem_of_getElem? (i := 993) (by decide +kernel), List.mem_of_getElem? (i := 1341) (by decide +kernel), List.mem_of_getElem? (i := 1342) (by decide +kernel)⟩
theorem lw_p38 : lw_okq (⟨"PointHouseModel", "gets", "(II)V"⟩, 37) := ⟨⟨by decide +kernel, by decide +kernel⟩, List.mem_of_getElem? (i := 993) (by decide +kernel), List.mem_of_getElem? (i := 1345) (by decide +kernel), List.mem_of_getElem? (i := 1346) (by decide +kernel)⟩
def lw_privs_3 : List (MethodName × Nat) := [(⟨"PointHouseModel", "aimsOf", "(I)I"⟩, 37), (⟨"PointHouseModel", "reached", "(I)I"⟩, 37), (⟨"PointHouseModel", "isRace", "(II)Z"⟩, 37), (⟨"PointHouseModel", "isMoving", "(I)Z"⟩, 37), (⟨"PointHouseModel", "base", "(I)I"⟩, 37), (⟨"PointHouseModel", "does", "(I)Z"⟩, 37), (⟨"PointHouseModel", "gets", "(II)V"⟩, 37)]
theorem lw_r3 : ∀ q ∈ lw_privs_3, lw_okq q := List.forall_mem_cons.mpr ⟨lw_p32, List.forall_mem_cons.mpr ⟨lw_p33, List.forall_mem_cons.mpr ⟨lw_p34, List.forall_mem_cons.mpr ⟨lw_p35, List.forall_mem_cons.mpr ⟨lw_p36, List.forall_mem_cons.mpr ⟨lw_p37, List.forall_mem_cons.mpr ⟨lw_p38, fun _ h => absurd h List.not_mem_nil⟩⟩⟩⟩⟩⟩⟩
def lw_privs : List (MethodName × Nat) := lw_privs_1 ++ (lw_privs_2 ++ (lw_privs_3))
def lw_tbl : List Cond := k2_sels lw_privs ++ tables_1
theorem lw_privs_ok : ∀ q ∈ lw_privs, lw_okq q := by
  show ∀ q ∈ lw_privs_1 ++ (lw_privs_2 ++ (lw_privs_3)), lw_okq q
  exact List.forall_mem_append.mpr ⟨lw_r1, List.forall_mem_append.mpr ⟨lw_r2, lw_r3⟩⟩

/-! ===== BEGIN words of one list among another's, by their places ===== -/
theorem goodIn_r {big : List Cond} (ws : List Cond) (ps : List Nat) (hp : ws = ps.filterMap (fun i => big[i]?)) (h : ws.all goodWord = true) : GoodIn big ws := by
  intro w hw
  have h1 := List.all_eq_true.mp h w hw
  rw [hp] at hw
  obtain ⟨i, -, hi⟩ := List.mem_filterMap.mp hw
  have hm : w ∈ big := by first | exact List.mem_of_getElem? hi | exact List.getElem?_mem hi
  exact ⟨hm, good_of_word h1⟩
theorem goodIn_app {big a b : List Cond} (ha : GoodIn big a) (hb : GoodIn big b) : GoodIn big (a ++ b) := fun w h => (List.mem_append.mp h).elim (ha w) (hb w)
theorem goodIn_ca {big a b : List Cond} {c : Cond} (ha : GoodIn big (c :: a)) (hb : GoodIn big b) : GoodIn big (c :: (a ++ b)) := fun w h => (List.mem_cons.mp h).elim (fun e => ha w (List.mem_cons.mpr (Or.inl e))) (fun h => (List.mem_append.mp h).elim (fun h => ha w (List.mem_cons.mpr (Or.inr h))) (hb w))
theorem goodIn_sub {big ws : List Cond} (hm : ∀ w ∈ ws, w ∈ big) (h : ws.all goodWord = true) : GoodIn big ws := fun w hw => ⟨hm w hw, good_of_word (List.all_eq_true.mp h w hw)⟩
/-! ===== END ===== -/

/-! ===== BEGIN printed: names, fields, word lists, decode rows ===== -/
def RX0 : String := "PointHouse$Call"
def TX0 : u_T := fun k => match k with
  | 0 => ("PointHouse$Give", "x", "I", true)
  | 1 => ("PointHouse$Give", "y", "I", true)
  | 2 => ("PointHouse$Give", "number", "I", true)
  | 3 => ("PointHouse$Give", "thread", "I", false)
  | 4 => ("PointHouse$Give", "lock", "I", false)
  | 5 => ("PointHouse$Give", "inside", "I", false)
  | 6 => ("PointHouse$Give", "isOn", "Z", false)
  | _ => ("PointHouse$Call", "z", "I", true)
def tyX0 : Nat → FieldType := fun k => match k with
  | 0 => .int
  | 1 => .int
  | 2 => .int
  | 3 => .int
  | 4 => .int
  | 5 => .int
  | 6 => .boolean
  | _ => .int
abbrev wsX00 : List Cond := u_ws RX0 TX0 8
theorem nmX0 : ∀ a, a < 8 → ∀ b, b < 8 → a ≠ b → (TX0 a).2.1 ≠ (TX0 b).2.1 := by decide +kernel
theorem tyX0_ok : ∀ k, k < 8 → parseFieldDescriptor (TX0 k).2.2.1 = some (tyX0 k) := by decide +kernel
abbrev cX0_init : ByteArray := prog_2_method_1_code
def yX0_init : MethodName := ⟨RX0, "<init>", "(IIII)V"⟩
abbrev cX0_sort : ByteArray := prog_2_method_2_code
def yX0_sort : MethodName := ⟨RX0, "sort", "()I"⟩
abbrev cX0_work : ByteArray := prog_2_method_3_code
def yX0_work : MethodName := ⟨RX0, "work", "()I"⟩
abbrev cX0_argument : ByteArray := prog_2_method_4_code
def yX0_argument : MethodName := ⟨RX0, "argument", "()I"⟩
abbrev cX0_touched : ByteArray := prog_2_method_5_code
def yX0_touched : MethodName := ⟨RX0, "touched", "()I"⟩
abbrev cX0_allow : ByteArray := prog_2_method_6_code
def yX0_allow : MethodName := ⟨RX0, "allow", "(LPointHouse$Sets;)V"⟩
abbrev cX0_act : ByteArray := prog_2_method_7_code
def yX0_act : MethodName := ⟨RX0, "act", "(LPointHouse$Machine;)Z"⟩
def RX1 : String := "PointHouse$Cast"
def TX1 : u_T := fun k => match k with
  | 0 => ("PointHouse$Give", "x", "I", true)
  | 1 => ("PointHouse$Give", "y", "I", true)
  | 2 => ("PointHouse$Give", "number", "I", true)
  | 3 => ("PointHouse$Give", "thread", "I", false)
  | 4 => ("PointHouse$Give", "lock", "I", false)
  | 5 => ("PointHouse$Give", "inside", "I", false)
  | _ => ("PointHouse$Give", "isOn", "Z", false)
def tyX1 : Nat → FieldType := fun k => match k with
  | 0 => .int
  | 1 => .int
  | 2 => .int
  | 3 => .int
  | 4 => .int
  | 5 => .int
  | _ => .boolean
abbrev wsX10 : List Cond := u_ws RX1 TX1 7
theorem nmX1 : ∀ a, a < 7 → ∀ b, b < 7 → a ≠ b → (TX1 a).2.1 ≠ (TX1 b).2.1 := by decide +kernel
theorem tyX1_ok : ∀ k, k < 7 → parseFieldDescriptor (TX1 k).2.2.1 = some (tyX1 k) := by decide +kernel
abbrev cX1_init : ByteArray := prog_3_method_1_code
def yX1_init : MethodName := ⟨RX1, "<init>", "(III)V"⟩
abbrev cX1_sort : ByteArray := prog_3_method_2_code
def yX1_sort : MethodName := ⟨RX1, "sort", "()I"⟩
abbrev cX1_work : ByteArray := prog_3_method_3_code
def yX1_work : MethodName := ⟨RX1, "work", "()I"⟩
abbrev cX1_allow : ByteArray := prog_3_method_4_code
def yX1_allow : MethodName := ⟨RX1, "allow", "(LPointHouse$Sets;)V"⟩
abbrev cX1_act : ByteArray := prog_3_method_5_code
def yX1_act : MethodName := ⟨RX1, "act", "(LPointHouse$Machine;)Z"⟩
def RX2 : String := "PointHouse$Give"
def TX2 : u_T := fun k => match k with
  | 0 => ("PointHouse$Give", "x", "I", true)
  | 1 => ("PointHouse$Give", "y", "I", true)
  | 2 => ("PointHouse$Give", "number", "I", true)
  | 3 => ("PointHouse$Give", "thread", "I", false)
  | 4 => ("PointHouse$Give", "lock", "I", false)
  | 5 => ("PointHouse$Give", "inside", "I", false)
  | _ => ("PointHouse$Give", "isOn", "Z", false)
def tyX2 : Nat → FieldType := fun k => match k with
  | 0 => .int
  | 1 => .int
  | 2 => .int
  | 3 => .int
  | 4 => .int
  | 5 => .int
  | _ => .boolean
abbrev wsX20 : List Cond := u_ws RX2 TX2 7
theorem nmX2 : ∀ a, a < 7 → ∀ b, b < 7 → a ≠ b → (TX2 a).2.1 ≠ (TX2 b).2.1 := by decide +kernel
theorem tyX2_ok : ∀ k, k < 7 → parseFieldDescriptor (TX2 k).2.2.1 = some (tyX2 k) := by decide +kernel
abbrev cX2_init : ByteArray := prog_4_method_1_code
def yX2_init : MethodName := ⟨RX2, "<init>", "(III)V"⟩
abbrev cX2_sort : ByteArray := prog_4_method_2_code
def yX2_sort : MethodName := ⟨RX2, "sort", "()I"⟩
abbrev cX2_work : ByteArray := prog_4_method_3_code
def yX2_work : MethodName := ⟨RX2, "work", "()I"⟩
abbrev cX2_argument : ByteArray := prog_4_method_4_code
def yX2_argument : MethodName := ⟨RX2, "argument", "()I"⟩
abbrev cX2_object : ByteArray := prog_4_method_5_code
def yX2_object : MethodName := ⟨RX2, "object", "()I"⟩
abbrev cX2_touched : ByteArray := prog_4_method_6_code
def yX2_touched : MethodName := ⟨RX2, "touched", "()I"⟩
abbrev cX2_allow : ByteArray := prog_4_method_7_code
def yX2_allow : MethodName := ⟨RX2, "allow", "(LPointHouse$Sets;)V"⟩
abbrev cX2_act : ByteArray := prog_4_method_8_code
def yX2_act : MethodName := ⟨RX2, "act", "(LPointHouse$Machine;)Z"⟩
def RX3 : String := "PointHouse$Kinds"
def TX3 : u_T := fun k => match k with
  | 0 => ("PointHouse$Kinds", "above", "[I", true)
  | 1 => ("PointHouse$Kinds", "own", "[I", true)
  | 2 => ("PointHouse$Kinds", "roles", "[I", true)
  | 3 => ("PointHouse$Kinds", "made", "[I", true)
  | 4 => ("PointHouse$Kinds", "kindCount", "I", false)
  | _ => ("PointHouse$Kinds", "objectCount", "I", false)
def tyX3 : Nat → FieldType := fun k => match k with
  | 0 => .array .int
  | 1 => .array .int
  | 2 => .array .int
  | 3 => .array .int
  | 4 => .int
  | _ => .int
abbrev wsX30 : List Cond := u_ws RX3 TX3 6
theorem nmX3 : ∀ a, a < 6 → ∀ b, b < 6 → a ≠ b → (TX3 a).2.1 ≠ (TX3 b).2.1 := by decide +kernel
theorem tyX3_ok : ∀ k, k < 6 → parseFieldDescriptor (TX3 k).2.2.1 = some (tyX3 k) := by decide +kernel
abbrev cX3_init : ByteArray := prog_5_method_1_code
def yX3_init : MethodName := ⟨RX3, "<init>", "()V"⟩
abbrev cX3_isTold : ByteArray := prog_5_method_2_code
def yX3_isTold : MethodName := ⟨RX3, "isTold", "(I)Z"⟩
abbrev cX3_isFull : ByteArray := prog_5_method_3_code
def yX3_isFull : MethodName := ⟨RX3, "isFull", "()Z"⟩
abbrev cX3_tell : ByteArray := prog_5_method_4_code
def yX3_tell : MethodName := ⟨RX3, "tell", "(I)I"⟩
abbrev cX3_setOwn : ByteArray := prog_5_method_5_code
def yX3_setOwn : MethodName := ⟨RX3, "setOwn", "(III)I"⟩
abbrev cX3_aimOf : ByteArray := prog_5_method_6_code
def yX3_aimOf : MethodName := ⟨RX3, "aimOf", "(II)I"⟩
abbrev cX3_isUnder : ByteArray := prog_5_method_7_code
def yX3_isUnder : MethodName := ⟨RX3, "isUnder", "(II)Z"⟩
abbrev cX3_setRole : ByteArray := prog_5_method_8_code
def yX3_setRole : MethodName := ⟨RX3, "setRole", "(III)V"⟩
abbrev cX3_nameOf : ByteArray := prog_5_method_9_code
def yX3_nameOf : MethodName := ⟨RX3, "nameOf", "(II)I"⟩
abbrev cX3_hasRoomForObject : ByteArray := prog_5_method_10_code
def yX3_hasRoomForObject : MethodName := ⟨RX3, "hasRoomForObject", "()Z"⟩
abbrev cX3_makeObject : ByteArray := prog_5_method_11_code
def yX3_makeObject : MethodName := ⟨RX3, "makeObject", "(I)I"⟩
abbrev cX3_isObject : ByteArray := prog_5_method_12_code
def yX3_isObject : MethodName := ⟨RX3, "isObject", "(I)Z"⟩
abbrev cX3_kindOfObject : ByteArray := prog_5_method_13_code
def yX3_kindOfObject : MethodName := ⟨RX3, "kindOfObject", "(I)I"⟩
abbrev cX3_kindsOf : ByteArray := prog_5_method_14_code
def yX3_kindsOf : MethodName := ⟨RX3, "kindsOf", "(I)I"⟩
def RX4 : String := "PointHouse$Machine"
def TX4 : u_T := fun k => match k with
  | 0 => ("PointHouse$Machine", "kinds", "LPointHouse$Kinds;", true)
  | 1 => ("PointHouse$Machine", "has", "[I", true)
  | _ => ("PointHouse$Machine", "had", "[I", true)
def tyX4 : Nat → FieldType := fun k => match k with
  | 0 => .object "PointHouse$Kinds"
  | 1 => .array .int
  | _ => .array .int
abbrev wsX40 : List Cond := u_ws RX4 TX4 3
theorem nmX4 : ∀ a, a < 3 → ∀ b, b < 3 → a ≠ b → (TX4 a).2.1 ≠ (TX4 b).2.1 := by decide +kernel
theorem tyX4_ok : ∀ k, k < 3 → parseFieldDescriptor (TX4 k).2.2.1 = some (tyX4 k) := by decide +kernel
abbrev cX4_init : ByteArray := prog_6_method_1_code
def yX4_init : MethodName := ⟨RX4, "<init>", "(LPointHouse$Kinds;)V"⟩
abbrev cX4_begin : ByteArray := prog_6_method_2_code
def yX4_begin : MethodName := ⟨RX4, "begin", "()V"⟩
abbrev cX4_objectAt : ByteArray := prog_6_method_3_code
def yX4_objectAt : MethodName := ⟨RX4, "objectAt", "(I)I"⟩
abbrev cX4_hadAt : ByteArray := prog_6_method_4_code
def yX4_hadAt : MethodName := ⟨RX4, "hadAt", "(I)I"⟩
abbrev cX4_put : ByteArray := prog_6_method_5_code
def yX4_put : MethodName := ⟨RX4, "put", "(II)V"⟩
abbrev cX4_isObjectUnder : ByteArray := prog_6_method_6_code
def yX4_isObjectUnder : MethodName := ⟨RX4, "isObjectUnder", "(II)Z"⟩
def RX5 : String := "PointHouse$Make"
def TX5 : u_T := fun k => match k with
  | 0 => ("PointHouse$Give", "x", "I", true)
  | 1 => ("PointHouse$Give", "y", "I", true)
  | 2 => ("PointHouse$Give", "number", "I", true)
  | 3 => ("PointHouse$Give", "thread", "I", false)
  | 4 => ("PointHouse$Give", "lock", "I", false)
  | 5 => ("PointHouse$Give", "inside", "I", false)
  | 6 => ("PointHouse$Give", "isOn", "Z", false)
  | _ => ("PointHouse$Make", "object", "I", true)
def tyX5 : Nat → FieldType := fun k => match k with
  | 0 => .int
  | 1 => .int
  | 2 => .int
  | 3 => .int
  | 4 => .int
  | 5 => .int
  | 6 => .boolean
  | _ => .int
abbrev wsX50 : List Cond := u_ws RX5 TX5 8
theorem nmX5 : ∀ a, a < 8 → ∀ b, b < 8 → a ≠ b → (TX5 a).2.1 ≠ (TX5 b).2.1 := by decide +kernel
theorem tyX5_ok : ∀ k, k < 8 → parseFieldDescriptor (TX5 k).2.2.1 = some (tyX5 k) := by decide +kernel
abbrev cX5_init : ByteArray := prog_7_method_1_code
def yX5_init : MethodName := ⟨RX5, "<init>", "(III)V"⟩
abbrev cX5_sort : ByteArray := prog_7_method_2_code
def yX5_sort : MethodName := ⟨RX5, "sort", "()I"⟩
abbrev cX5_object : ByteArray := prog_7_method_3_code
def yX5_object : MethodName := ⟨RX5, "object", "()I"⟩
abbrev cX5_allow : ByteArray := prog_7_method_4_code
def yX5_allow : MethodName := ⟨RX5, "allow", "(LPointHouse$Sets;)V"⟩
abbrev cX5_act : ByteArray := prog_7_method_5_code
def yX5_act : MethodName := ⟨RX5, "act", "(LPointHouse$Machine;)Z"⟩
def RX6 : String := "PointHouse$Read"
def TX6 : u_T := fun k => match k with
  | 0 => ("PointHouse$Give", "x", "I", true)
  | 1 => ("PointHouse$Give", "y", "I", true)
  | 2 => ("PointHouse$Give", "number", "I", true)
  | 3 => ("PointHouse$Give", "thread", "I", false)
  | 4 => ("PointHouse$Give", "lock", "I", false)
  | 5 => ("PointHouse$Give", "inside", "I", false)
  | _ => ("PointHouse$Give", "isOn", "Z", false)
def tyX6 : Nat → FieldType := fun k => match k with
  | 0 => .int
  | 1 => .int
  | 2 => .int
  | 3 => .int
  | 4 => .int
  | 5 => .int
  | _ => .boolean
abbrev wsX60 : List Cond := u_ws RX6 TX6 7
theorem nmX6 : ∀ a, a < 7 → ∀ b, b < 7 → a ≠ b → (TX6 a).2.1 ≠ (TX6 b).2.1 := by decide +kernel
theorem tyX6_ok : ∀ k, k < 7 → parseFieldDescriptor (TX6 k).2.2.1 = some (tyX6 k) := by decide +kernel
abbrev cX6_init : ByteArray := prog_8_method_1_code
def yX6_init : MethodName := ⟨RX6, "<init>", "(III)V"⟩
abbrev cX6_sort : ByteArray := prog_8_method_2_code
def yX6_sort : MethodName := ⟨RX6, "sort", "()I"⟩
abbrev cX6_work : ByteArray := prog_8_method_3_code
def yX6_work : MethodName := ⟨RX6, "work", "()I"⟩
abbrev cX6_touched : ByteArray := prog_8_method_4_code
def yX6_touched : MethodName := ⟨RX6, "touched", "()I"⟩
abbrev cX6_allow : ByteArray := prog_8_method_5_code
def yX6_allow : MethodName := ⟨RX6, "allow", "(LPointHouse$Sets;)V"⟩
abbrev cX6_act : ByteArray := prog_8_method_6_code
def yX6_act : MethodName := ⟨RX6, "act", "(LPointHouse$Machine;)Z"⟩
def RX7 : String := "PointHouse$Sets"
def TX7 : u_T := fun k => match k with
  | 0 => ("PointHouse$Sets", "kinds", "LPointHouse$Kinds;", true)
  | 1 => ("PointHouse$Sets", "isByKinds", "Z", true)
  | 2 => ("PointHouse$Sets", "lines", "[LPointHouse$Give;", true)
  | 3 => ("PointHouse$Sets", "isFilled", "Z", false)
  | 4 => ("PointHouse$Sets", "rounds", "I", false)
  | 5 => ("PointHouse$Sets", "held", "[I", true)
  | 6 => ("PointHouse$Sets", "added", "[I", true)
  | _ => ("PointHouse$Sets", "firstRounds", "[I", true)
def tyX7 : Nat → FieldType := fun k => match k with
  | 0 => .object "PointHouse$Kinds"
  | 1 => .boolean
  | 2 => .array (.object "PointHouse$Give")
  | 3 => .boolean
  | 4 => .int
  | 5 => .array .int
  | 6 => .array .int
  | _ => .array .int
abbrev wsX70 : List Cond := u_ws RX7 TX7 8
theorem nmX7 : ∀ a, a < 8 → ∀ b, b < 8 → a ≠ b → (TX7 a).2.1 ≠ (TX7 b).2.1 := by decide +kernel
theorem tyX7_ok : ∀ k, k < 8 → parseFieldDescriptor (TX7 k).2.2.1 = some (tyX7 k) := by decide +kernel
abbrev cX7_init : ByteArray := prog_9_method_1_code
def yX7_init : MethodName := ⟨RX7, "<init>", "(LPointHouse$Kinds;[LPointHouse$Give;Z)V"⟩
abbrev cX7_filled : ByteArray := prog_9_method_2_code
def yX7_filled : MethodName := ⟨RX7, "filled", "()LPointHouse$Sets;"⟩
abbrev cX7_fill : ByteArray := prog_9_method_3_code
def yX7_fill : MethodName := ⟨RX7, "fill", "(I)V"⟩
abbrev cX7_settle : ByteArray := prog_9_method_4_code
def yX7_settle : MethodName := ⟨RX7, "settle", "(I)Z"⟩
abbrev cX7_noteRound : ByteArray := prog_9_method_5_code
def yX7_noteRound : MethodName := ⟨RX7, "noteRound", "(III)V"⟩
abbrev cX7_heldAt : ByteArray := prog_9_method_6_code
def yX7_heldAt : MethodName := ⟨RX7, "heldAt", "(I)I"⟩
abbrev cX7_add : ByteArray := prog_9_method_7_code
def yX7_add : MethodName := ⟨RX7, "add", "(II)V"⟩
abbrev cX7_roundsTo : ByteArray := prog_9_method_8_code
def yX7_roundsTo : MethodName := ⟨RX7, "roundsTo", "(II)I"⟩
abbrev cX7_kindOfPoint : ByteArray := prog_9_method_9_code
def yX7_kindOfPoint : MethodName := ⟨RX7, "kindOfPoint", "(I)I"⟩
abbrev cX7_aimOfPoint : ByteArray := prog_9_method_10_code
def yX7_aimOfPoint : MethodName := ⟨RX7, "aimOfPoint", "(II)I"⟩
abbrev cX7_partUnder : ByteArray := prog_9_method_11_code
def yX7_partUnder : MethodName := ⟨RX7, "partUnder", "(II)I"⟩
abbrev cX7_heldInFieldsOf : ByteArray := prog_9_method_12_code
def yX7_heldInFieldsOf : MethodName := ⟨RX7, "heldInFieldsOf", "(I)I"⟩
def RX8 : String := "PointHouse$Sheet"
def TX8 : u_T := fun k => match k with
  | 0 => ("PointHouse$Sheet", "items", "[I", true)
  | 1 => ("PointHouse$Sheet", "sort", "I", false)
  | _ => ("PointHouse$Sheet", "size", "I", false)
def tyX8 : Nat → FieldType := fun k => match k with
  | 0 => .array .int
  | 1 => .int
  | _ => .int
abbrev wsX80 : List Cond := u_ws RX8 TX8 3
theorem nmX8 : ∀ a, a < 3 → ∀ b, b < 3 → a ≠ b → (TX8 a).2.1 ≠ (TX8 b).2.1 := by decide +kernel
theorem tyX8_ok : ∀ k, k < 3 → parseFieldDescriptor (TX8 k).2.2.1 = some (tyX8 k) := by decide +kernel
abbrev cX8_init : ByteArray := prog_10_method_1_code
def yX8_init : MethodName := ⟨RX8, "<init>", "()V"⟩
abbrev cX8_isMissing : ByteArray := prog_10_method_2_code
def yX8_isMissing : MethodName := ⟨RX8, "isMissing", "()Z"⟩
abbrev cX8_become : ByteArray := prog_10_method_3_code
def yX8_become : MethodName := ⟨RX8, "become", "(II)V"⟩
abbrev cX8_covers : ByteArray := prog_10_method_4_code
def yX8_covers : MethodName := ⟨RX8, "covers", "(II)Z"⟩
abbrev cX8_itemAt : ByteArray := prog_10_method_5_code
def yX8_itemAt : MethodName := ⟨RX8, "itemAt", "(I)I"⟩
abbrev cX8_put : ByteArray := prog_10_method_6_code
def yX8_put : MethodName := ⟨RX8, "put", "(II)V"⟩
def RX9 : String := "PointHouse$Tape"
def TX9 : u_T := fun k => match k with
  | 0 => ("PointHouse$Tape", "bytes", "[I", true)
  | _ => ("PointHouse$Tape", "size", "I", false)
def tyX9 : Nat → FieldType := fun k => match k with
  | 0 => .array .int
  | _ => .int
abbrev wsX90 : List Cond := u_ws RX9 TX9 2
theorem nmX9 : ∀ a, a < 2 → ∀ b, b < 2 → a ≠ b → (TX9 a).2.1 ≠ (TX9 b).2.1 := by decide +kernel
theorem tyX9_ok : ∀ k, k < 2 → parseFieldDescriptor (TX9 k).2.2.1 = some (tyX9 k) := by decide +kernel
abbrev cX9_init : ByteArray := prog_11_method_1_code
def yX9_init : MethodName := ⟨RX9, "<init>", "()V"⟩
abbrev cX9_hasRoom : ByteArray := prog_11_method_2_code
def yX9_hasRoom : MethodName := ⟨RX9, "hasRoom", "(I)Z"⟩
abbrev cX9_push : ByteArray := prog_11_method_3_code
def yX9_push : MethodName := ⟨RX9, "push", "(I)V"⟩
abbrev cX9_clear : ByteArray := prog_11_method_4_code
def yX9_clear : MethodName := ⟨RX9, "clear", "()V"⟩
abbrev cX9_byteAt : ByteArray := prog_11_method_5_code
def yX9_byteAt : MethodName := ⟨RX9, "byteAt", "(I)I"⟩
abbrev cX9_formOf : ByteArray := prog_11_method_6_code
def yX9_formOf : MethodName := ⟨RX9, "formOf", "(I)Ljava/lang/String;"⟩
abbrev cX9_suits : ByteArray := prog_11_method_7_code
def yX9_suits : MethodName := ⟨RX9, "suits", "(IC)Z"⟩
abbrev cX9_matched : ByteArray := prog_11_method_8_code
def yX9_matched : MethodName := ⟨RX9, "matched", "(Ljava/lang/String;)I"⟩
abbrev cX9_sortTold : ByteArray := prog_11_method_9_code
def yX9_sortTold : MethodName := ⟨RX9, "sortTold", "()I"⟩
abbrev cX9_faultPlace : ByteArray := prog_11_method_10_code
def yX9_faultPlace : MethodName := ⟨RX9, "faultPlace", "()I"⟩
abbrev cX9_letterOf : ByteArray := prog_11_method_11_code
def yX9_letterOf : MethodName := ⟨RX9, "letterOf", "(IC)I"⟩
abbrev cX9_numberOf : ByteArray := prog_11_method_12_code
def yX9_numberOf : MethodName := ⟨RX9, "numberOf", "(I)I"⟩
def RX10 : String := "PointHouse$Write"
def TX10 : u_T := fun k => match k with
  | 0 => ("PointHouse$Give", "x", "I", true)
  | 1 => ("PointHouse$Give", "y", "I", true)
  | 2 => ("PointHouse$Give", "number", "I", true)
  | 3 => ("PointHouse$Give", "thread", "I", false)
  | 4 => ("PointHouse$Give", "lock", "I", false)
  | 5 => ("PointHouse$Give", "inside", "I", false)
  | _ => ("PointHouse$Give", "isOn", "Z", false)
def tyX10 : Nat → FieldType := fun k => match k with
  | 0 => .int
  | 1 => .int
  | 2 => .int
  | 3 => .int
  | 4 => .int
  | 5 => .int
  | _ => .boolean
abbrev wsX100 : List Cond := u_ws RX10 TX10 7
theorem nmX10 : ∀ a, a < 7 → ∀ b, b < 7 → a ≠ b → (TX10 a).2.1 ≠ (TX10 b).2.1 := by decide +kernel
theorem tyX10_ok : ∀ k, k < 7 → parseFieldDescriptor (TX10 k).2.2.1 = some (tyX10 k) := by decide +kernel
abbrev cX10_init : ByteArray := prog_12_method_1_code
def yX10_init : MethodName := ⟨RX10, "<init>", "(III)V"⟩
abbrev cX10_sort : ByteArray := prog_12_method_2_code
def yX10_sort : MethodName := ⟨RX10, "sort", "()I"⟩
abbrev cX10_work : ByteArray := prog_12_method_3_code
def yX10_work : MethodName := ⟨RX10, "work", "()I"⟩
abbrev cX10_touched : ByteArray := prog_12_method_4_code
def yX10_touched : MethodName := ⟨RX10, "touched", "()I"⟩
abbrev cX10_allow : ByteArray := prog_12_method_5_code
def yX10_allow : MethodName := ⟨RX10, "allow", "(LPointHouse$Sets;)V"⟩
abbrev cX10_act : ByteArray := prog_12_method_6_code
def yX10_act : MethodName := ⟨RX10, "act", "(LPointHouse$Machine;)Z"⟩
def RX11 : String := "PointHouse"
def TX11 : u_T := fun k => match k with
  | 0 => ("PointHouse", "kinds", "LPointHouse$Kinds;", true)
  | 1 => ("PointHouse", "tape", "LPointHouse$Tape;", true)
  | 2 => ("PointHouse", "lines", "[LPointHouse$Give;", true)
  | 3 => ("PointHouse", "lineCount", "I", false)
  | 4 => ("PointHouse", "objectSets", "LPointHouse$Sets;", true)
  | 5 => ("PointHouse", "kindSets", "LPointHouse$Sets;", true)
  | 6 => ("PointHouse", "trialSets", "LPointHouse$Sets;", true)
  | 7 => ("PointHouse", "machine", "LPointHouse$Machine;", true)
  | _ => ("PointHouse", "sheets", "[LPointHouse$Sheet;", true)
def tyX11 : Nat → FieldType := fun k => match k with
  | 0 => .object "PointHouse$Kinds"
  | 1 => .object "PointHouse$Tape"
  | 2 => .array (.object "PointHouse$Give")
  | 3 => .int
  | 4 => .object "PointHouse$Sets"
  | 5 => .object "PointHouse$Sets"
  | 6 => .object "PointHouse$Sets"
  | 7 => .object "PointHouse$Machine"
  | _ => .array (.object "PointHouse$Sheet")
abbrev wsX110 : List Cond := u_ws RX11 TX11 9
theorem nmX11 : ∀ a, a < 9 → ∀ b, b < 9 → a ≠ b → (TX11 a).2.1 ≠ (TX11 b).2.1 := by decide +kernel
theorem tyX11_ok : ∀ k, k < 9 → parseFieldDescriptor (TX11 k).2.2.1 = some (tyX11 k) := by decide +kernel
abbrev cX11_init : ByteArray := prog_1_method_1_code
def yX11_init : MethodName := ⟨RX11, "<init>", "()V"⟩
abbrev cX11_kind : ByteArray := prog_1_method_2_code
def yX11_kind : MethodName := ⟨RX11, "kind", "(I)I"⟩
abbrev cX11_has : ByteArray := prog_1_method_3_code
def yX11_has : MethodName := ⟨RX11, "has", "(III)I"⟩
abbrev cX11_aim : ByteArray := prog_1_method_4_code
def yX11_aim : MethodName := ⟨RX11, "aim", "(II)I"⟩
abbrev cX11_names : ByteArray := prog_1_method_5_code
def yX11_names : MethodName := ⟨RX11, "names", "(IIII)I"⟩
abbrev cX11_under : ByteArray := prog_1_method_6_code
def yX11_under : MethodName := ⟨RX11, "under", "(II)I"⟩
abbrev cX11_feed : ByteArray := prog_1_method_7_code
def yX11_feed : MethodName := ⟨RX11, "feed", "(IJ)I"⟩
abbrev cX11_line : ByteArray := prog_1_method_8_code
def yX11_line : MethodName := ⟨RX11, "line", "(II)I"⟩
abbrev cX11_lineTold : ByteArray := prog_1_method_9_code
def yX11_lineTold : MethodName := ⟨RX11, "lineTold", "(II)I"⟩
abbrev cX11_turn : ByteArray := prog_1_method_10_code
def yX11_turn : MethodName := ⟨RX11, "turn", "(II)I"⟩
abbrev cX11_in : ByteArray := prog_1_method_11_code
def yX11_in : MethodName := ⟨RX11, "in", "(II)I"⟩
abbrev cX11_holds : ByteArray := prog_1_method_12_code
def yX11_holds : MethodName := ⟨RX11, "holds", "(I)I"⟩
abbrev cX11_field : ByteArray := prog_1_method_13_code
def yX11_field : MethodName := ⟨RX11, "field", "(II)I"⟩
abbrev cX11_still : ByteArray := prog_1_method_14_code
def yX11_still : MethodName := ⟨RX11, "still", "()I"⟩
abbrev cX11_way : ByteArray := prog_1_method_15_code
def yX11_way : MethodName := ⟨RX11, "way", "(II)I"⟩
abbrev cX11_byKinds : ByteArray := prog_1_method_16_code
def yX11_byKinds : MethodName := ⟨RX11, "byKinds", "(I)I"⟩
abbrev cX11_tooMuch : ByteArray := prog_1_method_17_code
def yX11_tooMuch : MethodName := ⟨RX11, "tooMuch", "(I)I"⟩
abbrev cX11_ask : ByteArray := prog_1_method_18_code
def yX11_ask : MethodName := ⟨RX11, "ask", "(III)I"⟩
abbrev cX11_cast : ByteArray := prog_1_method_19_code
def yX11_cast : MethodName := ⟨RX11, "cast", "(I)I"⟩
abbrev cX11_aims : ByteArray := prog_1_method_20_code
def yX11_aims : MethodName := ⟨RX11, "aims", "(I)I"⟩
abbrev cX11_dead : ByteArray := prog_1_method_21_code
def yX11_dead : MethodName := ⟨RX11, "dead", "()I"⟩
abbrev cX11_cut : ByteArray := prog_1_method_22_code
def yX11_cut : MethodName := ⟨RX11, "cut", "(II)J"⟩
abbrev cX11_same : ByteArray := prog_1_method_23_code
def yX11_same : MethodName := ⟨RX11, "same", "(II)I"⟩
abbrev cX11_melted : ByteArray := prog_1_method_24_code
def yX11_melted : MethodName := ⟨RX11, "melted", "(I)I"⟩
abbrev cX11_leaves : ByteArray := prog_1_method_25_code
def yX11_leaves : MethodName := ⟨RX11, "leaves", "()I"⟩
abbrev cX11_race : ByteArray := prog_1_method_26_code
def yX11_race : MethodName := ⟨RX11, "race", "(I)I"⟩
abbrev cX11_run : ByteArray := prog_1_method_27_code
def yX11_run : MethodName := ⟨RX11, "run", "(II)I"⟩
abbrev cX11_seen : ByteArray := prog_1_method_28_code
def yX11_seen : MethodName := ⟨RX11, "seen", "(I)I"⟩
abbrev cX11_now : ByteArray := prog_1_method_29_code
def yX11_now : MethodName := ⟨RX11, "now", "(I)I"⟩
abbrev cX11_count : ByteArray := prog_1_method_30_code
def yX11_count : MethodName := ⟨RX11, "count", "(I)I"⟩
abbrev cX11_sheet : ByteArray := prog_1_method_31_code
def yX11_sheet : MethodName := ⟨RX11, "sheet", "(III)I"⟩
abbrev cX11_cell : ByteArray := prog_1_method_32_code
def yX11_cell : MethodName := ⟨RX11, "cell", "(III)I"⟩
abbrev cX11_copy : ByteArray := prog_1_method_33_code
def yX11_copy : MethodName := ⟨RX11, "copy", "(IIIII)I"⟩
abbrev cX11_taped : ByteArray := prog_1_method_34_code
def yX11_taped : MethodName := ⟨RX11, "taped", "(IIII)I"⟩
abbrev cX11_taken : ByteArray := prog_1_method_35_code
def yX11_taken : MethodName := ⟨RX11, "taken", "(II)I"⟩
abbrev cX11_isWithin : ByteArray := prog_1_method_36_code
def yX11_isWithin : MethodName := ⟨RX11, "isWithin", "(III)Z"⟩
abbrev cX11_isName : ByteArray := prog_1_method_37_code
def yX11_isName : MethodName := ⟨RX11, "isName", "(I)Z"⟩
abbrev cX11_isNameOrNone : ByteArray := prog_1_method_38_code
def yX11_isNameOrNone : MethodName := ⟨RX11, "isNameOrNone", "(I)Z"⟩
abbrev cX11_bit : ByteArray := prog_1_method_39_code
def yX11_bit : MethodName := ⟨RX11, "bit", "(Z)I"⟩
abbrev cX11_hasBit : ByteArray := prog_1_method_40_code
def yX11_hasBit : MethodName := ⟨RX11, "hasBit", "(II)Z"⟩
abbrev cX11_fieldPlace : ByteArray := prog_1_method_41_code
def yX11_fieldPlace : MethodName := ⟨RX11, "fieldPlace", "(II)I"⟩
abbrev cX11_lineAt : ByteArray := prog_1_method_42_code
def yX11_lineAt : MethodName := ⟨RX11, "lineAt", "(I)LPointHouse$Give;"⟩
abbrev cX11_sheetAt : ByteArray := prog_1_method_43_code
def yX11_sheetAt : MethodName := ⟨RX11, "sheetAt", "(I)LPointHouse$Sheet;"⟩
abbrev cX11_lineOfTape : ByteArray := prog_1_method_44_code
def yX11_lineOfTape : MethodName := ⟨RX11, "lineOfTape", "(I)LPointHouse$Give;"⟩
abbrev cX11_forgetSets : ByteArray := prog_1_method_45_code
def yX11_forgetSets : MethodName := ⟨RX11, "forgetSets", "()V"⟩
abbrev cX11_linesOn : ByteArray := prog_1_method_46_code
def yX11_linesOn : MethodName := ⟨RX11, "linesOn", "()I"⟩
abbrev cX11_workOfLinesOn : ByteArray := prog_1_method_47_code
def yX11_workOfLinesOn : MethodName := ⟨RX11, "workOfLinesOn", "()I"⟩
abbrev cX11_objectsOn : ByteArray := prog_1_method_48_code
def yX11_objectsOn : MethodName := ⟨RX11, "objectsOn", "()I"⟩
abbrev cX11_aimsOf : ByteArray := prog_1_method_49_code
def yX11_aimsOf : MethodName := ⟨RX11, "aimsOf", "(LPointHouse$Give;LPointHouse$Sets;)I"⟩
abbrev cX11_flowFrom : ByteArray := prog_1_method_50_code
def yX11_flowFrom : MethodName := ⟨RX11, "flowFrom", "(IZ)I"⟩
abbrev cX11_isHeldElsewhere : ByteArray := prog_1_method_51_code
def yX11_isHeldElsewhere : MethodName := ⟨RX11, "isHeldElsewhere", "(LPointHouse$Give;LPointHouse$Sets;)Z"⟩
abbrev cX11_isRace : ByteArray := prog_1_method_52_code
def yX11_isRace : MethodName := ⟨RX11, "isRace", "(LPointHouse$Give;LPointHouse$Give;LPointHouse$Sets;)Z"⟩
abbrev cX11_isOfSort : ByteArray := prog_1_method_53_code
def yX11_isOfSort : MethodName := ⟨RX11, "isOfSort", "(LPointHouse$Give;I)Z"⟩
def RX12 : String := "PointHouseModel"
def TX12 : u_T := fun k => match k with
  | 0 => ("PointHouseModel", "thrown", "I", false)
  | 1 => ("PointHouseModel", "above", "[I", true)
  | 2 => ("PointHouseModel", "own", "[I", true)
  | 3 => ("PointHouseModel", "kinds", "I", false)
  | 4 => ("PointHouseModel", "self", "[I", true)
  | 5 => ("PointHouseModel", "given", "[I", true)
  | 6 => ("PointHouseModel", "back", "[I", true)
  | 7 => ("PointHouseModel", "sort", "[I", true)
  | 8 => ("PointHouseModel", "x", "[I", true)
  | 9 => ("PointHouseModel", "y", "[I", true)
  | 10 => ("PointHouseModel", "number", "[I", true)
  | 11 => ("PointHouseModel", "z", "[I", true)
  | 12 => ("PointHouseModel", "thread", "[I", true)
  | 13 => ("PointHouseModel", "lock", "[I", true)
  | 14 => ("PointHouseModel", "isOn", "[Z", true)
  | 15 => ("PointHouseModel", "inside", "[I", true)
  | 16 => ("PointHouseModel", "object", "[I", true)
  | 17 => ("PointHouseModel", "lines", "I", false)
  | 18 => ("PointHouseModel", "madeBy", "[I", true)
  | 19 => ("PointHouseModel", "objects", "I", false)
  | 20 => ("PointHouseModel", "tape", "[I", true)
  | 21 => ("PointHouseModel", "taped", "I", false)
  | 22 => ("PointHouseModel", "at", "I", false)
  | 23 => ("PointHouseModel", "bad", "Z", false)
  | 24 => ("PointHouseModel", "set", "[I", true)
  | 25 => ("PointHouseModel", "next", "[I", true)
  | 26 => ("PointHouseModel", "rounds", "I", false)
  | 27 => ("PointHouseModel", "byKind", "Z", false)
  | 28 => ("PointHouseModel", "leftOut", "I", false)
  | 29 => ("PointHouseModel", "flows", "[I", true)
  | 30 => ("PointHouseModel", "has", "[I", true)
  | 31 => ("PointHouseModel", "had", "[I", true)
  | 32 => ("PointHouseModel", "fieldHas", "[I", true)
  | 33 => ("PointHouseModel", "isThere", "[Z", true)
  | 34 => ("PointHouseModel", "sorts", "[I", true)
  | 35 => ("PointHouseModel", "sheetSize", "[I", true)
  | _ => ("PointHouseModel", "items", "[I", true)
def tyX12 : Nat → FieldType := fun k => match k with
  | 0 => .int
  | 1 => .array .int
  | 2 => .array .int
  | 3 => .int
  | 4 => .array .int
  | 5 => .array .int
  | 6 => .array .int
  | 7 => .array .int
  | 8 => .array .int
  | 9 => .array .int
  | 10 => .array .int
  | 11 => .array .int
  | 12 => .array .int
  | 13 => .array .int
  | 14 => .array .boolean
  | 15 => .array .int
  | 16 => .array .int
  | 17 => .int
  | 18 => .array .int
  | 19 => .int
  | 20 => .array .int
  | 21 => .int
  | 22 => .int
  | 23 => .boolean
  | 24 => .array .int
  | 25 => .array .int
  | 26 => .int
  | 27 => .boolean
  | 28 => .int
  | 29 => .array .int
  | 30 => .array .int
  | 31 => .array .int
  | 32 => .array .int
  | 33 => .array .boolean
  | 34 => .array .int
  | 35 => .array .int
  | _ => .array .int
abbrev wsX120 : List Cond := u_ws RX12 TX12 37
theorem nmX12 : ∀ a, a < 37 → ∀ b, b < 37 → a ≠ b → (TX12 a).2.1 ≠ (TX12 b).2.1 := by decide +kernel
theorem tyX12_ok : ∀ k, k < 37 → parseFieldDescriptor (TX12 k).2.2.1 = some (tyX12 k) := by decide +kernel
abbrev cX12_in : ByteArray := prog_14_method_2_code
def yX12_in : MethodName := ⟨RX12, "in", "(JJJ)Z"⟩
abbrev cX12_init : ByteArray := prog_14_method_3_code
def yX12_init : MethodName := ⟨RX12, "<init>", "()V"⟩
abbrev cX12_isKind : ByteArray := prog_14_method_4_code
def yX12_isKind : MethodName := ⟨RX12, "isKind", "(I)Z"⟩
abbrev cX12_isName : ByteArray := prog_14_method_5_code
def yX12_isName : MethodName := ⟨RX12, "isName", "(I)Z"⟩
abbrev cX12_isAct : ByteArray := prog_14_method_6_code
def yX12_isAct : MethodName := ⟨RX12, "isAct", "(I)Z"⟩
abbrev cX12_kind : ByteArray := prog_14_method_7_code
def yX12_kind : MethodName := ⟨RX12, "kind", "(I)I"⟩
abbrev cX12_has : ByteArray := prog_14_method_8_code
def yX12_has : MethodName := ⟨RX12, "has", "(III)I"⟩
abbrev cX12_aimOf : ByteArray := prog_14_method_9_code
def yX12_aimOf : MethodName := ⟨RX12, "aimOf", "(II)I"⟩
abbrev cX12_aim : ByteArray := prog_14_method_10_code
def yX12_aim : MethodName := ⟨RX12, "aim", "(II)I"⟩
abbrev cX12_names : ByteArray := prog_14_method_11_code
def yX12_names : MethodName := ⟨RX12, "names", "(IIII)I"⟩
abbrev cX12_isUnder : ByteArray := prog_14_method_12_code
def yX12_isUnder : MethodName := ⟨RX12, "isUnder", "(II)Z"⟩
abbrev cX12_under : ByteArray := prog_14_method_13_code
def yX12_under : MethodName := ⟨RX12, "under", "(II)I"⟩
abbrev cX12_isLine : ByteArray := prog_14_method_14_code
def yX12_isLine : MethodName := ⟨RX12, "isLine", "(I)Z"⟩
abbrev cX12_isObject : ByteArray := prog_14_method_15_code
def yX12_isObject : MethodName := ⟨RX12, "isObject", "(I)Z"⟩
abbrev cX12_kindOf : ByteArray := prog_14_method_16_code
def yX12_kindOf : MethodName := ⟨RX12, "kindOf", "(I)I"⟩
abbrev cX12_workOf : ByteArray := prog_14_method_17_code
def yX12_workOf : MethodName := ⟨RX12, "workOf", "(I)I"⟩
abbrev cX12_feed : ByteArray := prog_14_method_18_code
def yX12_feed : MethodName := ⟨RX12, "feed", "(IJ)I"⟩
abbrev cX12_here : ByteArray := prog_14_method_19_code
def yX12_here : MethodName := ⟨RX12, "here", "()I"⟩
abbrev cX12_sign : ByteArray := prog_14_method_20_code
def yX12_sign : MethodName := ⟨RX12, "sign", "(I)V"⟩
abbrev cX12_one : ByteArray := prog_14_method_21_code
def yX12_one : MethodName := ⟨RX12, "one", "(II)I"⟩
abbrev cX12_read : ByteArray := prog_14_method_22_code
def yX12_read : MethodName := ⟨RX12, "read", "(I)V"⟩
abbrev cX12_readBehind : ByteArray := prog_14_method_23_code
def yX12_readBehind : MethodName := ⟨RX12, "readBehind", "(I)V"⟩
abbrev cX12_line : ByteArray := prog_14_method_24_code
def yX12_line : MethodName := ⟨RX12, "line", "(II)I"⟩
abbrev cX12_lineTold : ByteArray := prog_14_method_25_code
def yX12_lineTold : MethodName := ⟨RX12, "lineTold", "(II)I"⟩
abbrev cX12_turn : ByteArray := prog_14_method_26_code
def yX12_turn : MethodName := ⟨RX12, "turn", "(II)I"⟩
abbrev cX12_in_ : ByteArray := prog_14_method_27_code
def yX12_in_ : MethodName := ⟨RX12, "in", "(II)I"⟩
abbrev cX12_kindFor : ByteArray := prog_14_method_28_code
def yX12_kindFor : MethodName := ⟨RX12, "kindFor", "(I)I"⟩
abbrev cX12_fieldAt : ByteArray := prog_14_method_29_code
def yX12_fieldAt : MethodName := ⟨RX12, "fieldAt", "(II)I"⟩
abbrev cX12_ofKind : ByteArray := prog_14_method_30_code
def yX12_ofKind : MethodName := ⟨RX12, "ofKind", "(II)I"⟩
abbrev cX12_calls : ByteArray := prog_14_method_31_code
def yX12_calls : MethodName := ⟨RX12, "calls", "(I)V"⟩
abbrev cX12_allows : ByteArray := prog_14_method_32_code
def yX12_allows : MethodName := ⟨RX12, "allows", "(I)V"⟩
abbrev cX12_round : ByteArray := prog_14_method_33_code
def yX12_round : MethodName := ⟨RX12, "round", "()Z"⟩
abbrev cX12_begin : ByteArray := prog_14_method_34_code
def yX12_begin : MethodName := ⟨RX12, "begin", "(ZI)V"⟩
abbrev cX12_workOut : ByteArray := prog_14_method_35_code
def yX12_workOut : MethodName := ⟨RX12, "workOut", "(ZI)V"⟩
abbrev cX12_holds : ByteArray := prog_14_method_36_code
def yX12_holds : MethodName := ⟨RX12, "holds", "(I)I"⟩
abbrev cX12_field : ByteArray := prog_14_method_37_code
def yX12_field : MethodName := ⟨RX12, "field", "(II)I"⟩
abbrev cX12_still : ByteArray := prog_14_method_38_code
def yX12_still : MethodName := ⟨RX12, "still", "()I"⟩
abbrev cX12_way : ByteArray := prog_14_method_39_code
def yX12_way : MethodName := ⟨RX12, "way", "(II)I"⟩
abbrev cX12_byKinds : ByteArray := prog_14_method_40_code
def yX12_byKinds : MethodName := ⟨RX12, "byKinds", "(I)I"⟩
abbrev cX12_bitsOf : ByteArray := prog_14_method_41_code
def yX12_bitsOf : MethodName := ⟨RX12, "bitsOf", "(I)I"⟩
abbrev cX12_tooMuch : ByteArray := prog_14_method_42_code
def yX12_tooMuch : MethodName := ⟨RX12, "tooMuch", "(I)I"⟩
abbrev cX12_workOfAll : ByteArray := prog_14_method_43_code
def yX12_workOfAll : MethodName := ⟨RX12, "workOfAll", "()I"⟩
abbrev cX12_ask : ByteArray := prog_14_method_44_code
def yX12_ask : MethodName := ⟨RX12, "ask", "(III)I"⟩
abbrev cX12_cast : ByteArray := prog_14_method_45_code
def yX12_cast : MethodName := ⟨RX12, "cast", "(I)I"⟩
abbrev cX12_aimsOf : ByteArray := prog_14_method_46_code
def yX12_aimsOf : MethodName := ⟨RX12, "aimsOf", "(I)I"⟩
abbrev cX12_aims : ByteArray := prog_14_method_47_code
def yX12_aims : MethodName := ⟨RX12, "aims", "(I)I"⟩
abbrev cX12_dead : ByteArray := prog_14_method_48_code
def yX12_dead : MethodName := ⟨RX12, "dead", "()I"⟩
abbrev cX12_cut : ByteArray := prog_14_method_49_code
def yX12_cut : MethodName := ⟨RX12, "cut", "(II)J"⟩
abbrev cX12_same : ByteArray := prog_14_method_50_code
def yX12_same : MethodName := ⟨RX12, "same", "(II)I"⟩
abbrev cX12_reached : ByteArray := prog_14_method_51_code
def yX12_reached : MethodName := ⟨RX12, "reached", "(I)I"⟩
abbrev cX12_melted : ByteArray := prog_14_method_52_code
def yX12_melted : MethodName := ⟨RX12, "melted", "(I)I"⟩
abbrev cX12_leaves : ByteArray := prog_14_method_53_code
def yX12_leaves : MethodName := ⟨RX12, "leaves", "()I"⟩
abbrev cX12_isMoving : ByteArray := prog_14_method_54_code
def yX12_isMoving : MethodName := ⟨RX12, "isMoving", "(I)Z"⟩
abbrev cX12_base : ByteArray := prog_14_method_55_code
def yX12_base : MethodName := ⟨RX12, "base", "(I)I"⟩
abbrev cX12_isRace : ByteArray := prog_14_method_56_code
def yX12_isRace : MethodName := ⟨RX12, "isRace", "(II)Z"⟩
abbrev cX12_race : ByteArray := prog_14_method_57_code
def yX12_race : MethodName := ⟨RX12, "race", "(I)I"⟩
abbrev cX12_gets : ByteArray := prog_14_method_58_code
def yX12_gets : MethodName := ⟨RX12, "gets", "(II)V"⟩
abbrev cX12_does : ByteArray := prog_14_method_59_code
def yX12_does : MethodName := ⟨RX12, "does", "(I)Z"⟩
abbrev cX12_run : ByteArray := prog_14_method_60_code
def yX12_run : MethodName := ⟨RX12, "run", "(II)I"⟩
abbrev cX12_seen : ByteArray := prog_14_method_61_code
def yX12_seen : MethodName := ⟨RX12, "seen", "(I)I"⟩
abbrev cX12_now : ByteArray := prog_14_method_62_code
def yX12_now : MethodName := ⟨RX12, "now", "(I)I"⟩
abbrev cX12_count : ByteArray := prog_14_method_63_code
def yX12_count : MethodName := ⟨RX12, "count", "(I)I"⟩
abbrev cX12_isSheet : ByteArray := prog_14_method_64_code
def yX12_isSheet : MethodName := ⟨RX12, "isSheet", "(I)Z"⟩
abbrev cX12_sheet : ByteArray := prog_14_method_65_code
def yX12_sheet : MethodName := ⟨RX12, "sheet", "(III)I"⟩
abbrev cX12_cell : ByteArray := prog_14_method_66_code
def yX12_cell : MethodName := ⟨RX12, "cell", "(III)I"⟩
abbrev cX12_copy : ByteArray := prog_14_method_67_code
def yX12_copy : MethodName := ⟨RX12, "copy", "(IIIII)I"⟩
abbrev cX12_taped : ByteArray := prog_14_method_68_code
def yX12_taped : MethodName := ⟨RX12, "taped", "(IIII)I"⟩
abbrev cX12_over : ByteArray := prog_14_method_69_code
def yX12_over : MethodName := ⟨RX12, "over", "(I)I"⟩
abbrev cX12_taken : ByteArray := prog_14_method_70_code
def yX12_taken : MethodName := ⟨RX12, "taken", "(II)I"⟩
def RJx145de : String := "java/io/Serializable"
def TJx145de : u_T := fun k => match k with
  | _ => ("", "", "", false)
def tyJx145de : Nat → FieldType := fun k => match k with
  | _ => .int
abbrev wsJx145de0 : List Cond := u_ws RJx145de TJx145de 0
theorem nmJx145de : ∀ a, a < 0 → ∀ b, b < 0 → a ≠ b → (TJx145de a).2.1 ≠ (TJx145de b).2.1 := by decide +kernel
theorem tyJx145de_ok : ∀ k, k < 0 → parseFieldDescriptor (TJx145de k).2.2.1 = some (tyJx145de k) := by decide +kernel
def RJx9f9b0 : String := "java/lang/CharSequence"
def TJx9f9b0 : u_T := fun k => match k with
  | _ => ("", "", "", false)
def tyJx9f9b0 : Nat → FieldType := fun k => match k with
  | _ => .int
abbrev wsJx9f9b00 : List Cond := u_ws RJx9f9b0 TJx9f9b0 0
theorem nmJx9f9b0 : ∀ a, a < 0 → ∀ b, b < 0 → a ≠ b → (TJx9f9b0 a).2.1 ≠ (TJx9f9b0 b).2.1 := by decide +kernel
theorem tyJx9f9b0_ok : ∀ k, k < 0 → parseFieldDescriptor (TJx9f9b0 k).2.2.1 = some (tyJx9f9b0 k) := by decide +kernel
def RJ11 : String := "java/lang/Character"
def TJ11 : u_T := fun k => match k with
  | _ => ("", "", "", false)
def tyJ11 : Nat → FieldType := fun k => match k with
  | _ => .int
abbrev wsJ110 : List Cond := u_ws RJ11 TJ11 0
theorem nmJ11 : ∀ a, a < 0 → ∀ b, b < 0 → a ≠ b → (TJ11 a).2.1 ≠ (TJ11 b).2.1 := by decide +kernel
theorem tyJ11_ok : ∀ k, k < 0 → parseFieldDescriptor (TJ11 k).2.2.1 = some (tyJ11 k) := by decide +kernel
abbrev cJ11_isValidCodePoint_9a6ad : ByteArray := prog_15_method_11_code
def yJ11_isValidCodePoint_9a6ad : MethodName := ⟨RJ11, "isValidCodePoint", "(I)Z"⟩
abbrev cJ11_highSurrogate_5068e : ByteArray := prog_15_method_28_code
def yJ11_highSurrogate_5068e : MethodName := ⟨RJ11, "highSurrogate", "(I)C"⟩
abbrev cJ11_lowSurrogate_5068e : ByteArray := prog_15_method_29_code
def yJ11_lowSurrogate_5068e : MethodName := ⟨RJ11, "lowSurrogate", "(I)C"⟩
def RJxb160c : String := "java/lang/Comparable"
def TJxb160c : u_T := fun k => match k with
  | _ => ("", "", "", false)
def tyJxb160c : Nat → FieldType := fun k => match k with
  | _ => .int
abbrev wsJxb160c0 : List Cond := u_ws RJxb160c TJxb160c 0
theorem nmJxb160c : ∀ a, a < 0 → ∀ b, b < 0 → a ≠ b → (TJxb160c a).2.1 ≠ (TJxb160c b).2.1 := by decide +kernel
theorem tyJxb160c_ok : ∀ k, k < 0 → parseFieldDescriptor (TJxb160c k).2.2.1 = some (tyJxb160c k) := by decide +kernel
def RJ6 : String := "java/lang/Integer"
def TJ6 : u_T := fun k => match k with
  | _ => ("", "", "", false)
def tyJ6 : Nat → FieldType := fun k => match k with
  | _ => .int
abbrev wsJ60 : List Cond := u_ws RJ6 TJ6 0
theorem nmJ6 : ∀ a, a < 0 → ∀ b, b < 0 → a ≠ b → (TJ6 a).2.1 ≠ (TJ6 b).2.1 := by decide +kernel
theorem tyJ6_ok : ∀ k, k < 0 → parseFieldDescriptor (TJ6 k).2.2.1 = some (tyJ6 k) := by decide +kernel
abbrev cJ6_numberOfTrailingZeros_0f7a4 : ByteArray := prog_16_method_48_code
def yJ6_numberOfTrailingZeros_0f7a4 : MethodName := ⟨RJ6, "numberOfTrailingZeros", "(I)I"⟩
abbrev cJ6_bitCount_0f7a4 : ByteArray := prog_16_method_49_code
def yJ6_bitCount_0f7a4 : MethodName := ⟨RJ6, "bitCount", "(I)I"⟩
def RJ9 : String := "java/lang/Math"
def TJ9 : u_T := fun k => match k with
  | _ => ("", "", "", false)
def tyJ9 : Nat → FieldType := fun k => match k with
  | _ => .int
abbrev wsJ90 : List Cond := u_ws RJ9 TJ9 0
theorem nmJ9 : ∀ a, a < 0 → ∀ b, b < 0 → a ≠ b → (TJ9 a).2.1 ≠ (TJ9 b).2.1 := by decide +kernel
theorem tyJ9_ok : ∀ k, k < 0 → parseFieldDescriptor (TJ9 k).2.2.1 = some (tyJ9 k) := by decide +kernel
abbrev cJ9_max_7cf53 : ByteArray := prog_17_method_65_code
def yJ9_max_7cf53 : MethodName := ⟨RJ9, "max", "(II)I"⟩
abbrev cJ9_min_7cf53 : ByteArray := prog_17_method_69_code
def yJ9_min_7cf53 : MethodName := ⟨RJ9, "min", "(II)I"⟩
def RJ0 : String := "java/lang/String"
def TJ0 : u_T := fun k => match k with
  | _ => ("", "", "", false)
def tyJ0 : Nat → FieldType := fun k => match k with
  | _ => .int
abbrev wsJ00 : List Cond := u_ws RJ0 TJ0 0
theorem nmJ0 : ∀ a, a < 0 → ∀ b, b < 0 → a ≠ b → (TJ0 a).2.1 ≠ (TJ0 b).2.1 := by decide +kernel
theorem tyJ0_ok : ∀ k, k < 0 → parseFieldDescriptor (TJ0 k).2.2.1 = some (tyJ0 k) := by decide +kernel
abbrev cJ0_length_8abf5 : ByteArray := prog_18_method_54_code
def yJ0_length_8abf5 : MethodName := ⟨RJ0, "length", "()I"⟩
abbrev cJ0_charAt_5068e : ByteArray := prog_18_method_56_code
def yJ0_charAt_5068e : MethodName := ⟨RJ0, "charAt", "(I)C"⟩
abbrev cJ0_indexOf_0f7a4 : ByteArray := prog_18_method_79_code
def yJ0_indexOf_0f7a4 : MethodName := ⟨RJ0, "indexOf", "(I)I"⟩
abbrev cJ0_indexOf_7cf53 : ByteArray := prog_18_method_80_code
def yJ0_indexOf_7cf53 : MethodName := ⟨RJ0, "indexOf", "(II)I"⟩
abbrev cJ0_coder_7d493 : ByteArray := prog_18_method_152_code
def yJ0_coder_7d493 : MethodName := ⟨RJ0, "coder", "()B"⟩
abbrev cJ0_isLatin1_aae02 : ByteArray := prog_18_method_154_code
def yJ0_isLatin1_aae02 : MethodName := ⟨RJ0, "isLatin1", "()Z"⟩
abbrev cJ0_checkIndex_df160 : ByteArray := prog_18_method_155_code
def yJ0_checkIndex_df160 : MethodName := ⟨RJ0, "checkIndex", "(II)V"⟩
abbrev cJ0_checkBoundsBeginEnd_23922 : ByteArray := prog_18_method_158_code
def yJ0_checkBoundsBeginEnd_23922 : MethodName := ⟨RJ0, "checkBoundsBeginEnd", "(III)V"⟩
def RJ1 : String := "java/lang/StringLatin1"
def TJ1 : u_T := fun k => match k with
  | _ => ("", "", "", false)
def tyJ1 : Nat → FieldType := fun k => match k with
  | _ => .int
abbrev wsJ10 : List Cond := u_ws RJ1 TJ1 0
theorem nmJ1 : ∀ a, a < 0 → ∀ b, b < 0 → a ≠ b → (TJ1 a).2.1 ≠ (TJ1 b).2.1 := by decide +kernel
theorem tyJ1_ok : ∀ k, k < 0 → parseFieldDescriptor (TJ1 k).2.2.1 = some (tyJ1 k) := by decide +kernel
abbrev cJ1_charAt_3b067 : ByteArray := prog_19_method_2_code
def yJ1_charAt_3b067 : MethodName := ⟨RJ1, "charAt", "([BI)C"⟩
abbrev cJ1_canEncode_9a6ad : ByteArray := prog_19_method_4_code
def yJ1_canEncode_9a6ad : MethodName := ⟨RJ1, "canEncode", "(I)Z"⟩
abbrev cJ1_indexOf_4cfef : ByteArray := prog_19_method_22_code
def yJ1_indexOf_4cfef : MethodName := ⟨RJ1, "indexOf", "([BIII)I"⟩
abbrev cJ1_indexOfChar_4cfef : ByteArray := prog_19_method_23_code
def yJ1_indexOfChar_4cfef : MethodName := ⟨RJ1, "indexOfChar", "([BIII)I"⟩
def RJ2 : String := "java/lang/StringUTF16"
def TJ2 : u_T := fun k => match k with
  | _ => ("", "", "", false)
def tyJ2 : Nat → FieldType := fun k => match k with
  | _ => .int
abbrev wsJ20 : List Cond := u_ws RJ2 TJ2 0
theorem nmJ2 : ∀ a, a < 0 → ∀ b, b < 0 → a ≠ b → (TJ2 a).2.1 ≠ (TJ2 b).2.1 := by decide +kernel
theorem tyJ2_ok : ∀ k, k < 0 → parseFieldDescriptor (TJ2 k).2.2.1 = some (tyJ2 k) := by decide +kernel
abbrev cJ2_getChar_3b067 : ByteArray := prog_20_method_5_code
def yJ2_getChar_3b067 : MethodName := ⟨RJ2, "getChar", "([BI)C"⟩
abbrev cJ2_length_9d52b : ByteArray := prog_20_method_6_code
def yJ2_length_9d52b : MethodName := ⟨RJ2, "length", "([B)I"⟩
abbrev cJ2_indexOf_4cfef : ByteArray := prog_20_method_40_code
def yJ2_indexOf_4cfef : MethodName := ⟨RJ2, "indexOf", "([BIII)I"⟩
abbrev cJ2_indexOfChar_4cfef : ByteArray := prog_20_method_47_code
def yJ2_indexOfChar_4cfef : MethodName := ⟨RJ2, "indexOfChar", "([BIII)I"⟩
abbrev cJ2_indexOfCharUnsafe_4cfef : ByteArray := prog_20_method_48_code
def yJ2_indexOfCharUnsafe_4cfef : MethodName := ⟨RJ2, "indexOfCharUnsafe", "([BIII)I"⟩
abbrev cJ2_indexOfSupplementary_4cfef : ByteArray := prog_20_method_49_code
def yJ2_indexOfSupplementary_4cfef : MethodName := ⟨RJ2, "indexOfSupplementary", "([BIII)I"⟩
abbrev cJ2_charAt_3b067 : ByteArray := prog_20_method_83_code
def yJ2_charAt_3b067 : MethodName := ⟨RJ2, "charAt", "([BI)C"⟩
abbrev cJ2_checkIndex_2214a : ByteArray := prog_20_method_91_code
def yJ2_checkIndex_2214a : MethodName := ⟨RJ2, "checkIndex", "(I[B)V"⟩
abbrev cJ2_checkBoundsBeginEnd_d044e : ByteArray := prog_20_method_93_code
def yJ2_checkBoundsBeginEnd_d044e : MethodName := ⟨RJ2, "checkBoundsBeginEnd", "(II[B)V"⟩
def RJ10 : String := "java/lang/System"
def TJ10 : u_T := fun k => match k with
  | _ => ("", "", "", false)
def tyJ10 : Nat → FieldType := fun k => match k with
  | _ => .int
abbrev wsJ100 : List Cond := u_ws RJ10 TJ10 0
theorem nmJ10 : ∀ a, a < 0 → ∀ b, b < 0 → a ≠ b → (TJ10 a).2.1 ≠ (TJ10 b).2.1 := by decide +kernel
theorem tyJ10_ok : ∀ k, k < 0 → parseFieldDescriptor (TJ10 k).2.2.1 = some (tyJ10 k) := by decide +kernel
def RJxfd54e : String := "java/lang/constant/Constable"
def TJxfd54e : u_T := fun k => match k with
  | _ => ("", "", "", false)
def tyJxfd54e : Nat → FieldType := fun k => match k with
  | _ => .int
abbrev wsJxfd54e0 : List Cond := u_ws RJxfd54e TJxfd54e 0
theorem nmJxfd54e : ∀ a, a < 0 → ∀ b, b < 0 → a ≠ b → (TJxfd54e a).2.1 ≠ (TJxfd54e b).2.1 := by decide +kernel
theorem tyJxfd54e_ok : ∀ k, k < 0 → parseFieldDescriptor (TJxfd54e k).2.2.1 = some (tyJxfd54e k) := by decide +kernel
def RJx3cf43 : String := "java/lang/constant/ConstantDesc"
def TJx3cf43 : u_T := fun k => match k with
  | _ => ("", "", "", false)
def tyJx3cf43 : Nat → FieldType := fun k => match k with
  | _ => .int
abbrev wsJx3cf430 : List Cond := u_ws RJx3cf43 TJx3cf43 0
theorem nmJx3cf43 : ∀ a, a < 0 → ∀ b, b < 0 → a ≠ b → (TJx3cf43 a).2.1 ≠ (TJx3cf43 b).2.1 := by decide +kernel
theorem tyJx3cf43_ok : ∀ k, k < 0 → parseFieldDescriptor (TJx3cf43 k).2.2.1 = some (tyJx3cf43 k) := by decide +kernel
def RJ7 : String := "java/util/Arrays"
def TJ7 : u_T := fun k => match k with
  | _ => ("", "", "", false)
def tyJ7 : Nat → FieldType := fun k => match k with
  | _ => .int
abbrev wsJ70 : List Cond := u_ws RJ7 TJ7 0
theorem nmJ7 : ∀ a, a < 0 → ∀ b, b < 0 → a ≠ b → (TJ7 a).2.1 ≠ (TJ7 b).2.1 := by decide +kernel
theorem tyJ7_ok : ∀ k, k < 0 → parseFieldDescriptor (TJ7 k).2.2.1 = some (tyJ7 k) := by decide +kernel
abbrev cJ7_fill_53178 : ByteArray := prog_22_method_103_code
def yJ7_fill_53178 : MethodName := ⟨RJ7, "fill", "([II)V"⟩
def RJ3 : String := "jdk/internal/util/Preconditions"
def TJ3 : u_T := fun k => match k with
  | _ => ("", "", "", false)
def tyJ3 : Nat → FieldType := fun k => match k with
  | _ => .int
abbrev wsJ30 : List Cond := u_ws RJ3 TJ3 0
theorem nmJ3 : ∀ a, a < 0 → ∀ b, b < 0 → a ≠ b → (TJ3 a).2.1 ≠ (TJ3 b).2.1 := by decide +kernel
theorem tyJ3_ok : ∀ k, k < 0 → parseFieldDescriptor (TJ3 k).2.2.1 = some (tyJ3 k) := by decide +kernel
abbrev cJ3_checkIndex_8e157 : ByteArray := prog_23_method_11_code
def yJ3_checkIndex_8e157 : MethodName := ⟨RJ3, "checkIndex", "(IILjava/util/function/BiFunction;)I"⟩
abbrev cJ3_checkFromToIndex_8c36e : ByteArray := prog_23_method_12_code
def yJ3_checkFromToIndex_8c36e : MethodName := ⟨RJ3, "checkFromToIndex", "(IIILjava/util/function/BiFunction;)I"⟩
def RL : String := "PointHouseLaw"
abbrev cL_law : ByteArray := code
def yL_law : MethodName := ⟨RL, "law", "([I)Z"⟩
abbrev vwCl : List vw_C := [(RX0, TX0, 8), (RX1, TX1, 7), (RX2, TX2, 7), (RX3, TX3, 6), (RX4, TX4, 3), (RX5, TX5, 8), (RX6, TX6, 7), (RX7, TX7, 8), (RX8, TX8, 3), (RX9, TX9, 2), (RX10, TX10, 7), (RX11, TX11, 9), (RX12, TX12, 37)]
