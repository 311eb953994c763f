def am_cd (y : Nat) : Nat → Option am_En := (bif Nat.blt y 106 then (bif Nat.blt y 53 then (bif Nat.blt y 26 then (bif Nat.blt y 13 then (bif Nat.blt y 6 then (bif Nat.blt y 3 then (bif Nat.blt y 1 then cd_X0_init else (bif Nat.blt y 2 then cd_X0_sort else cd_X0_work)) else (bif Nat.blt y 4 then cd_X0_argument else (bif Nat.blt y 5 then cd_X0_touched else cd_X0_allow))) else (bif Nat.blt y 9 then (bif Nat.blt y 7 then cd_X0_act else (bif Nat.blt y 8 then cd_X1_init else cd_X1_sort)) else (bif Nat.blt y 11 then (bif Nat.blt y 10 then cd_X1_work else cd_X1_allow) else (bif Nat.blt y 12 then cd_X1_act else cd_X2_init)))) else (bif Nat.blt y 19 then (bif Nat.blt y 16 then (bif Nat.blt y 14 then cd_X2_sort else (bif Nat.blt y 15 then cd_X2_work else cd_X2_argument)) else (bif Nat.blt y 17 then cd_X2_object else (bif Nat.blt y 18 then cd_X2_touched else cd_X2_allow))) else (bif Nat.blt y 22 then (bif Nat.blt y 20 then cd_X2_act else (bif Nat.blt y 21 then cd_X3_init else cd_X3_isTold)) else (bif Nat.blt y 24 then (bif Nat.blt y 23 then cd_X3_isFull else cd_X3_tell) else (bif Nat.blt y 25 then cd_X3_setOwn else cd_X3_aimOf))))) else (bif Nat.blt y 39 then (bif Nat.blt y 32 then (bif Nat.blt y 29 then (bif Nat.blt y 27 then cd_X3_isUnder else (bif Nat.blt y 28 then cd_X3_setRole else cd_X3_nameOf)) else (bif Nat.blt y 30 then cd_X3_hasRoomForObject else (bif Nat.blt y 31 then cd_X3_makeObject else cd_X3_isObject))) else (bif Nat.blt y 35 then (bif Nat.blt y 33 then cd_X3_kindOfObject else (bif Nat.blt y 34 then cd_X3_kindsOf else cd_X4_init)) else (bif Nat.blt y 37 then (bif Nat.blt y 36 then cd_X4_begin else cd_X4_objectAt) else (bif Nat.blt y 38 then cd_X4_hadAt else cd_X4_put)))) else (bif Nat.blt y 46 then (bif Nat.blt y 42 then (bif Nat.blt y 40 then cd_X4_isObjectUnder else (bif Nat.blt y 41 then cd_X5_init else cd_X5_sort)) else (bif Nat.blt y 44 then (bif Nat.blt y 43 then cd_X5_object else cd_X5_allow) else (bif Nat.blt y 45 then cd_X5_act else cd_X6_init))) else (bif Nat.blt y 49 then (bif Nat.blt y 47 then cd_X6_sort else (bif Nat.blt y 48 then cd_X6_work else cd_X6_touched)) else (bif Nat.blt y 51 then (bif Nat.blt y 50 then cd_X6_allow else cd_X6_act) else (bif Nat.blt y 52 then cd_X7_init else cd_X7_filled)))))) else (bif Nat.blt y 79 then (bif Nat.blt y 66 then (bif Nat.blt y 59 then (bif Nat.blt y 56 then (bif Nat.blt y 54 then cd_X7_fill else (bif Nat.blt y 55 then cd_X7_settle else cd_X7_noteRound)) else (bif Nat.blt y 57 then cd_X7_heldAt else (bif Nat.blt y 58 then cd_X7_add else cd_X7_roundsTo))) else (bif Nat.blt y 62 then (bif Nat.blt y 60 then cd_X7_kindOfPoint else (bif Nat.blt y 61 then cd_X7_aimOfPoint else cd_X7_partUnder)) else (bif Nat.blt y 64 then (bif Nat.blt y 63 then cd_X7_heldInFieldsOf else cd_X8_init) else (bif Nat.blt y 65 then cd_X8_isMissing else cd_X8_become)))) else (bif Nat.blt y 72 then (bif Nat.blt y 69 then (bif Nat.blt y 67 then cd_X8_covers else (bif Nat.blt y 68 then cd_X8_itemAt else cd_X8_put)) else (bif Nat.blt y 70 then cd_X9_init else (bif Nat.blt y 71 then cd_X9_hasRoom else cd_X9_push))) else (bif Nat.blt y 75 then (bif Nat.blt y 73 then cd_X9_clear else (bif Nat.blt y 74 then cd_X9_byteAt else cd_X9_formOf)) else (bif Nat.blt y 77 then (bif Nat.blt y 76 then cd_X9_suits else cd_X9_matched) else (bif Nat.blt y 78 then cd_X9_sortTold else cd_X9_faultPlace))))) else (bif Nat.blt y 92 then (bif Nat.blt y 85 then (bif Nat.blt y 82 then (bif Nat.blt y 80 then cd_X9_letterOf else (bif Nat.blt y 81 then cd_X9_numberOf else cd_X10_init)) else (bif Nat.blt y 83 then cd_X10_sort else (bif Nat.blt y 84 then cd_X10_work else cd_X10_touched))) else (bif Nat.blt y 88 then (bif Nat.blt y 86 then cd_X10_allow else (bif Nat.blt y 87 then cd_X10_act else cd_X11_init)) else (bif Nat.blt y 90 then (bif Nat.blt y 89 then cd_X11_kind else cd_X11_has) else (bif Nat.blt y 91 then cd_X11_aim else cd_X11_names)))) else (bif Nat.blt y 99 then (bif Nat.blt y 95 then (bif Nat.blt y 93 then cd_X11_under else (bif Nat.blt y 94 then cd_X11_feed else cd_X11_line)) else (bif Nat.blt y 97 then (bif Nat.blt y 96 then cd_X11_lineTold else cd_X11_turn) else (bif Nat.blt y 98 then cd_X11_in else cd_X11_holds))) else (bif Nat.blt y 102 then (bif Nat.blt y 100 then cd_X11_field else (bif Nat.blt y 101 then cd_X11_still else cd_X11_way)) else (bif Nat.blt y 104 then (bif Nat.blt y 103 then cd_X11_byKinds else cd_X11_tooMuch) else (bif Nat.blt y 105 then cd_X11_ask else cd_X11_cast))))))) else (bif Nat.blt y 159 then (bif Nat.blt y 132 then (bif Nat.blt y 119 then (bif Nat.blt y 112 then (bif Nat.blt y 109 then (bif Nat.blt y 107 then cd_X11_aims else (bif Nat.blt y 108 then cd_X11_dead else cd_X11_cut)) else (bif Nat.blt y 110 then cd_X11_same else (bif Nat.blt y 111 then cd_X11_melted else cd_X11_leaves))) else (bif Nat.blt y 115 then (bif Nat.blt y 113 then cd_X11_race else (bif Nat.blt y 114 then cd_X11_run else cd_X11_seen)) else (bif Nat.blt y 117 then (bif Nat.blt y 116 then cd_X11_now else cd_X11_count) else (bif Nat.blt y 118 then cd_X11_sheet else cd_X11_cell)))) else (bif Nat.blt y 125 then (bif Nat.blt y 122 then (bif Nat.blt y 120 then cd_X11_copy else (bif Nat.blt y 121 then cd_X11_taped else cd_X11_taken)) else (bif Nat.blt y 123 then cd_X11_isWithin else (bif Nat.blt y 124 then cd_X11_isName else cd_X11_isNameOrNone))) else (bif Nat.blt y 128 then (bif Nat.blt y 126 then cd_X11_bit else (bif Nat.blt y 127 then cd_X11_hasBit else cd_X11_fieldPlace)) else (bif Nat.blt y 130 then (bif Nat.blt y 129 then cd_X11_lineAt else cd_X11_sheetAt) else (bif Nat.blt y 131 then cd_X11_lineOfTape else cd_X11_forgetSets))))) else (bif Nat.blt y 145 then (bif Nat.blt y 138 then (bif Nat.blt y 135 then (bif Nat.blt y 133 then cd_X11_linesOn else (bif Nat.blt y 134 then cd_X11_workOfLinesOn else cd_X11_objectsOn)) else (bif Nat.blt y 136 then cd_X11_aimsOf else (bif Nat.blt y 137 then cd_X11_flowFrom else cd_X11_isHeldElsewhere))) else (bif Nat.blt y 141 then (bif Nat.blt y 139 then cd_X11_isRace else (bif Nat.blt y 140 then cd_X11_isOfSort else cd_X12_in)) else (bif Nat.blt y 143 then (bif Nat.blt y 142 then cd_X12_init else cd_X12_isKind) else (bif Nat.blt y 144 then cd_X12_isName else cd_X12_isAct)))) else (bif Nat.blt y 152 then (bif Nat.blt y 148 then (bif Nat.blt y 146 then cd_X12_kind else (bif Nat.blt y 147 then cd_X12_has else cd_X12_aimOf)) else (bif Nat.blt y 150 then (bif Nat.blt y 149 then cd_X12_aim else cd_X12_names) else (bif Nat.blt y 151 then cd_X12_isUnder else cd_X12_under))) else (bif Nat.blt y 155 then (bif Nat.blt y 153 then cd_X12_isLine else (bif Nat.blt y 154 then cd_X12_isObject else cd_X12_kindOf)) else (bif Nat.blt y 157 then (bif Nat.blt y 156 then cd_X12_workOf else cd_X12_feed) else (bif Nat.blt y 158 then cd_X12_here else cd_X12_sign)))))) else (bif Nat.blt y 185 then (bif Nat.blt y 172 then (bif Nat.blt y 165 then (bif Nat.blt y 162 then (bif Nat.blt y 160 then cd_X12_one else (bif Nat.blt y 161 then cd_X12_read else cd_X12_readBehind)) else (bif Nat.blt y 163 then cd_X12_line else (bif Nat.blt y 164 then cd_X12_lineTold else cd_X12_turn))) else (bif Nat.blt y 168 then (bif Nat.blt y 166 then cd_X12_in_ else (bif Nat.blt y 167 then cd_X12_kindFor else cd_X12_fieldAt)) else (bif Nat.blt y 170 then (bif Nat.blt y 169 then cd_X12_ofKind else cd_X12_calls) else (bif Nat.blt y 171 then cd_X12_allows else cd_X12_round)))) else (bif Nat.blt y 178 then (bif Nat.blt y 175 then (bif Nat.blt y 173 then cd_X12_begin else (bif Nat.blt y 174 then cd_X12_workOut else cd_X12_holds)) else (bif Nat.blt y 176 then cd_X12_field else (bif Nat.blt y 177 then cd_X12_still else cd_X12_way))) else (bif Nat.blt y 181 then (bif Nat.blt y 179 then cd_X12_byKinds else (bif Nat.blt y 180 then cd_X12_bitsOf else cd_X12_tooMuch)) else (bif Nat.blt y 183 then (bif Nat.blt y 182 then cd_X12_workOfAll else cd_X12_ask) else (bif Nat.blt y 184 then cd_X12_cast else cd_X12_aimsOf))))) else (bif Nat.blt y 198 then (bif Nat.blt y 191 then (bif Nat.blt y 188 then (bif Nat.blt y 186 then cd_X12_aims else (bif Nat.blt y 187 then cd_X12_dead else cd_X12_cut)) else (bif Nat.blt y 189 then cd_X12_same else (bif Nat.blt y 190 then cd_X12_reached else cd_X12_melted))) else (bif Nat.blt y 194 then (bif Nat.blt y 192 then cd_X12_leaves else (bif Nat.blt y 193 then cd_X12_isMoving else cd_X12_base)) else (bif Nat.blt y 196 then (bif Nat.blt y 195 then cd_X12_isRace else cd_X12_race) else (bif Nat.blt y 197 then cd_X12_gets else cd_X12_does)))) else (bif Nat.blt y 205 then (bif Nat.blt y 201 then (bif Nat.blt y 199 then cd_X12_run else (bif Nat.blt y 200 then cd_X12_seen else cd_X12_now)) else (bif Nat.blt y 203 then (bif Nat.blt y 202 then cd_X12_count else cd_X12_isSheet) else (bif Nat.blt y 204 then cd_X12_sheet else cd_X12_cell))) else (bif Nat.blt y 208 then (bif Nat.blt y 206 then cd_X12_copy else (bif Nat.blt y 207 then cd_X12_taped else cd_X12_over)) else (bif Nat.blt y 210 then (bif Nat.blt y 209 then cd_X12_taken else cd_J7_fill_53178) else (bif Nat.blt y 211 then cd_J6_bitCount_0f7a4 else cd_J6_numberOfTrailingZeros_0f7a4))))))))
def am_NP : Nat := 212
theorem am_cd_ok : ∀ y, y < am_NP → ∀ pc en, am_cd y pc = some en → am_chk (am_y y).cls (am_y y).name (am_b y) (am_nl y) (am_rt y) pc en = true := by
  intro y hy
  match y, hy with
  | 0, _ => exact ck_0
  | 1, _ => exact ck_1
  | 2, _ => exact ck_2
  | 3, _ => exact ck_3
  | 4, _ => exact ck_4
  | 5, _ => exact ck_5
  | 6, _ => exact ck_6
  | 7, _ => exact ck_7
  | 8, _ => exact ck_8
  | 9, _ => exact ck_9
  | 10, _ => exact ck_10
  | 11, _ => exact ck_11
  | 12, _ => exact ck_12
  | 13, _ => exact ck_13
  | 14, _ => exact ck_14
  | 15, _ => exact ck_15
  | 16, _ => exact ck_16
  | 17, _ => exact ck_17
  | 18, _ => exact ck_18
  | 19, _ => exact ck_19
  | 20, _ => exact ck_20
  | 21, _ => exact ck_21
  | 22, _ => exact ck_22
  | 23, _ => exact ck_23
  | 24, _ => exact ck_24
  | 25, _ => exact ck_25
  | 26, _ => exact ck_26
  | 27, _ => exact ck_27
  | 28, _ => exact ck_28
  | 29, _ => exact ck_29
  | 30, _ => exact ck_30
  | 31, _ => exact ck_31
  | 32, _ => exact ck_32
  | 33, _ => exact ck_33
  | 34, _ => exact ck_34
  | 35, _ => exact ck_35
  | 36, _ => exact ck_36
  | 37, _ => exact ck_37
  | 38, _ => exact ck_38
  | 39, _ => exact ck_39
  | 40, _ => exact ck_40
  | 41, _ => exact ck_41
  | 42, _ => exact ck_42
  | 43, _ => exact ck_43
  | 44, _ => exact ck_44
  | 45, _ => exact ck_45
  | 46, _ => exact ck_46
  | 47, _ => exact ck_47
  | 48, _ => exact ck_48
  | 49, _ => exact ck_49
  | 50, _ => exact ck_50
  | 51, _ => exact ck_51
  | 52, _ => exact ck_52
  | 53, _ => exact ck_53
  | 54, _ => exact ck_54
  | 55, _ => exact ck_55
  | 56, _ => exact ck_56
  | 57, _ => exact ck_57
  | 58, _ => exact ck_58
  | 59, _ => exact ck_59
  | 60, _ => exact ck_60
  | 61, _ => exact ck_61
  | 62, _ => exact ck_62
  | 63, _ => exact ck_63
  | 64, _ => exact ck_64
  | 65, _ => exact ck_65
  | 66, _ => exact ck_66
  | 67, _ => exact ck_67
  | 68, _ => exact ck_68
  | 69, _ => exact ck_69
  | 70, _ => exact ck_70
  | 71, _ => exact ck_71
  | 72, _ => exact ck_72
  | 73, _ => exact ck_73
  | 74, _ => exact ck_74
  | 75, _ => exact ck_75
  | 76, _ => exact ck_76
  | 77, _ => exact ck_77
  | 78, _ => exact ck_78
  | 79, _ => exact ck_79
  | 80, _ => exact ck_80
  | 81, _ => exact ck_81
  | 82, _ => exact ck_82
  | 83, _ => exact ck_83
  | 84, _ => exact ck_84
  | 85, _ => exact ck_85
  | 86, _ => exact ck_86
  | 87, _ => exact ck_87
  | 88, _ => exact ck_88
  | 89, _ => exact ck_89
  | 90, _ => exact ck_90
  | 91, _ => exact ck_91
  | 92, _ => exact ck_92
  | 93, _ => exact ck_93
  | 94, _ => exact ck_94
  | 95, _ => exact ck_95
  | 96, _ => exact ck_96
  | 97, _ => exact ck_97
  | 98, _ => exact ck_98
  | 99, _ => exact ck_99
  | 100, _ => exact ck_100
  | 101, _ => exact ck_101
  | 102, _ => exact ck_102
  | 103, _ => exact ck_103
  | 104, _ => exact ck_104
  | 105, _ => exact ck_105
  | 106, _ => exact ck_106
  | 107, _ => exact ck_107
  | 108, _ => exact ck_108
  | 109, _ => exact ck_109
  | 110, _ => exact ck_110
  | 111, _ => exact ck_111
  | 112, _ => exact ck_112
  | 113, _ => exact ck_113
  | 114, _ => exact ck_114
  | 115, _ => exact ck_115
  | 116, _ => exact ck_116
  | 117, _ => exact ck_117
  | 118, _ => exact ck_118
  | 119, _ => exact ck_119
  | 120, _ => exact ck_120
  | 121, _ => exact ck_121
  | 122, _ => exact ck_122
  | 123, _ => exact ck_123
  | 124, _ => exact ck_124
  | 125, _ => exact ck_125
  | 126, _ => exact ck_126
  | 127, _ => exact ck_127
  | 128, _ => exact ck_128
  | 129, _ => exact ck_129
  | 130, _ => exact ck_130
  | 131, _ => exact ck_131
  | 132, _ => exact ck_132
  | 133, _ => exact ck_133
  | 134, _ => exact ck_134
  | 135, _ => exact ck_135
  | 136, _ => exact ck_136
  | 137, _ => exact ck_137
  | 138, _ => exact ck_138
  | 139, _ => exact ck_139
  | 140, _ => exact ck_140
  | 141, _ => exact ck_141
  | 142, _ => exact ck_142
  | 143, _ => exact ck_143
  | 144, _ => exact ck_144
  | 145, _ => exact ck_145
  | 146, _ => exact ck_146
  | 147, _ => exact ck_147
  | 148, _ => exact ck_148
  | 149, _ => exact ck_149
  | 150, _ => exact ck_150
  | 151, _ => exact ck_151
  | 152, _ => exact ck_152
  | 153, _ => exact ck_153
  | 154, _ => exact ck_154
  | 155, _ => exact ck_155
  | 156, _ => exact ck_156
  | 157, _ => exact ck_157
  | 158, _ => exact ck_158
  | 159, _ => exact ck_159
  | 160, _ => exact ck_160
  | 161, _ => exact ck_161
  | 162, _ => exact ck_162
  | 163, _ => exact ck_163
  | 164, _ => exact ck_164
  | 165, _ => exact ck_165
  | 166, _ => exact ck_166
  | 167, _ => exact ck_167
  | 168, _ => exact ck_168
  | 169, _ => exact ck_169
  | 170, _ => exact ck_170
  | 171, _ => exact ck_171
  | 172, _ => exact ck_172
  | 173, _ => exact ck_173
  | 174, _ => exact ck_174
  | 175, _ => exact ck_175
  | 176, _ => exact ck_176
  | 177, _ => exact ck_177
  | 178, _ => exact ck_178
  | 179, _ => exact ck_179
  | 180, _ => exact ck_180
  | 181, _ => exact ck_181
  | 182, _ => exact ck_182
  | 183, _ => exact ck_183
  | 184, _ => exact ck_184
  | 185, _ => exact ck_185
  | 186, _ => exact ck_186
  | 187, _ => exact ck_187
  | 188, _ => exact ck_188
  | 189, _ => exact ck_189
  | 190, _ => exact ck_190
  | 191, _ => exact ck_191
  | 192, _ => exact ck_192
  | 193, _ => exact ck_193
  | 194, _ => exact ck_194
  | 195, _ => exact ck_195
  | 196, _ => exact ck_196
  | 197, _ => exact ck_197
  | 198, _ => exact ck_198
  | 199, _ => exact ck_199
  | 200, _ => exact ck_200
  | 201, _ => exact ck_201
  | 202, _ => exact ck_202
  | 203, _ => exact ck_203
  | 204, _ => exact ck_204
  | 205, _ => exact ck_205
  | 206, _ => exact ck_206
  | 207, _ => exact ck_207
  | 208, _ => exact ck_208
  | 209, _ => exact ck_209
  | 210, _ => exact ck_210
  | 211, _ => exact ck_211
  | n + 212, h => exact absurd h (by unfold am_NP; omega)
/-! the three methods of String, over the constants -/
def am_sch (i k : Nat) : Int32 := (am_byt.getD (i - 1) []).getD k 0
def am_six (c : Int32) : List Int32 → Nat → Int32
  | [], _ => -1
  | b :: t, k => if b = c then nI k else am_six c t (k + 1)
def am_prim (y : Nat) (vs : List Value) (h : am_H) (r : Option Value) (h' : am_H) : Prop := ∃ i, 0 < i ∧ i < 7 ∧ h' = h ∧
  ((y = am_NP ∧ vs = [.ref i] ∧ r = some (.int (nI (am_len.getD (i - 1) 0)))) ∨
   (y = am_NP + 1 ∧ ∃ k, k < am_len.getD (i - 1) 0 ∧ vs = [.ref i, .int (nI k)] ∧ r = some (.int (am_sch i k))) ∨
   (y = am_NP + 2 ∧ ∃ c, 0 ≤ c ∧ c < 128 ∧ vs = [.ref i, .int c] ∧ r = some (.int (am_six c (am_byt.getD (i - 1) []) 0))))
def am_X (xs : Nat → Int32) (LL : Nat) : Nat → Nat → List Value → am_H → Option Value → am_H → Prop
  | 0 => fun _ _ _ _ _ => False
  | d + 1 => fun y vs h r h' => (5 ≤ d ∧ am_prim y vs h r h') ∨ (Nat.blt y am_NP = true ∧ Nat.ble (am_ex vs).length (am_nl y) = true ∧ ∃ f, am_Run xs LL (am_cd y) (am_X xs LL d) f 0 (am_ent (am_nl y) vs) [] h r h')
set_option maxHeartbeats 1000000 in
theorem am_X_ok (l : Launch) (D : va_G) (tc : Nat → Nat) (b N0 : Nat) (sa sv : Nat → Nat) (LL : Nat) (xs : Nat → Int32) (hbN : b < N0)
    (hprim : ∀ d y vs h r h', 5 ≤ d → am_prim y vs h r h' → am_KM l D tc b N0 sa sv LL xs (d + 1) y vs h r h') :
    ∀ d y vs h r h', am_X xs LL d y vs h r h' → am_KM l D tc b N0 sa sv LL xs d y vs h r h' := by
  intro d
  induction d with
  | zero => intro y vs h r h' hr; exact hr.elim
  | succ d ih =>
    intro y vs h r h' hr
    rcases hr with ⟨h5, hp⟩ | ⟨hy, hn, f, hr⟩
    · exact hprim d y vs h r h' h5 hp
    · have hy := Nat.blt_eq.mp hy
      have hn := Nat.le_of_ble_eq_true hn
      have hyM : y < am_NM := Nat.lt_of_lt_of_le hy (by decide)
      obtain ⟨g1, g2, g3, g4⟩ := am_mok_of hyM
      have hle := am_Run_le (fun y vs h v h1 q => (ih y vs h v h1 q).1) _ _ _ _ _ _ _ hr
      refine ⟨hle, ?_⟩
      refine Met.ofW (cc := am_b y) (maxL := am_nl y) (ret := am_rt y) g4 rfl ?_
      intro p e s m args below meth c s₁ B hml hv
      obtain ⟨hav, hz, hP, hK, hZ⟩ := hv
      have hts : ∀ w ∈ am_ws y, w.before args s = true := atoms_spec (ws := am_ws y) B.pre
      have hC : am_C p s m args meth c (am_y y).cls (am_y y).name (am_b y) (am_nl y) D tc b N0 sa sv LL xs h.length :=
        ⟨B.exec, B.bytes, hml, findClass_of_methodNamed B.named, fun w hw => hts w (List.mem_cons_of_mem _ hw), hK, hZ, hz, hbN, fun hq => ((name_of_methodNamed B.named B.method).1).trans hq⟩
      have h1 := hle.1
      have h2 := hle.2
      have key := am_run_ok (l := l) (e := e) (below := below) (Q := MQ below (am_Qc D tc b N0 sa r h') args s (h'.length - h.length) (am_sz h' - am_sz h) (fun q => N0 ≤ q)) (R := (headSpec (am_ws y) (am_rm (d + 1) (h'.length - h.length) (am_sz h' - am_sz h))).room) (h0l := h.length) (sz0 := am_sz h) (r := r) (h' := h') (d := d) hC (am_cd_ok y hy) ih
        ⟨Nat.le_refl _, Nat.le_refl _⟩ (by show h'.length ≤ h.length + (h'.length - h.length); omega) (by show am_sz h' ≤ am_sz h + (am_sz h' - am_sz h); omega)
        (fun pc L st en hen hok hdg hrt => am_ret_ok en hC B.returns B.notSynchronized hok hdg hrt (by omega) (by omega)) f 0 _ _ _ hr
      subst hav
      rw [lg_entry_eq]
      exact key s.heap [] _ 0 0 hP hz va_S.rf (am_ent_LR hn) rfl rfl
