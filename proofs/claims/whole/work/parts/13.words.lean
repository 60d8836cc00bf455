/-! ===== the words of the tables that the methods need; the classes; what lies at each place ===== -/
theorem tb_0 {w : Cond} (i : Nat) (h : tables_1_1[i]? = some w) (h2 : goodWord w = true) : w ∈ gT := gT_of (List.mem_append_right _ ((List.mem_append_left _ (List.mem_of_getElem? h)))) h2
theorem tb_1 {w : Cond} (i : Nat) (h : tables_1_2[i]? = some w) (h2 : goodWord w = true) : w ∈ gT := gT_of (List.mem_append_right _ ((List.mem_append_right _ (List.mem_append_left _ (List.mem_of_getElem? h))))) h2
theorem tb_2 {w : Cond} (i : Nat) (h : tables_1_3[i]? = some w) (h2 : goodWord w = true) : w ∈ gT := gT_of (List.mem_append_right _ ((List.mem_append_right _ (List.mem_append_right _ (List.mem_append_left _ (List.mem_of_getElem? h)))))) h2
theorem tb_3 {w : Cond} (i : Nat) (h : tables_1_4[i]? = some w) (h2 : goodWord w = true) : w ∈ gT := gT_of (List.mem_append_right _ ((List.mem_append_right _ (List.mem_append_right _ (List.mem_append_right _ (List.mem_append_left _ (List.mem_of_getElem? h))))))) h2
theorem tb_4 {w : Cond} (i : Nat) (h : tables_1_5[i]? = some w) (h2 : goodWord w = true) : w ∈ gT := gT_of (List.mem_append_right _ ((List.mem_append_right _ (List.mem_append_right _ (List.mem_append_right _ (List.mem_append_right _ (List.mem_append_left _ (List.mem_of_getElem? h)))))))) h2
theorem tb_5 {w : Cond} (i : Nat) (h : tables_1_6[i]? = some w) (h2 : goodWord w = true) : w ∈ gT := gT_of (List.mem_append_right _ ((List.mem_append_right _ (List.mem_append_right _ (List.mem_append_right _ (List.mem_append_right _ (List.mem_append_right _ ((List.mem_of_getElem? h))))))))) h2
theorem mw_L_9 : Cond.methodLink RL 9 yX7_init ∈ gT := tb_0 18 rfl rfl
theorem mw_X7_1 : Cond.methodLink RX7 1 objectInit ∈ gT := tb_0 21 rfl rfl
theorem mw_X7_9 : Cond.methodLink RX7 9 yX1_init ∈ gT := tb_0 26 rfl rfl
theorem mw_X1_1 : Cond.methodLink RX1 1 objectInit ∈ gT := tb_0 29 rfl rfl
theorem mw_X1_18 : Cond.methodLink RX1 18 yX5_init ∈ gT := tb_0 36 rfl rfl
theorem mw_X5_1 : Cond.methodLink RX5 1 objectInit ∈ gT := tb_0 39 rfl rfl
theorem mw_X5_9 : Cond.methodLink RX5 9 Lib.Math.min.name ∈ gT := tb_0 40 rfl rfl
theorem mw_X1_25 : Cond.methodLink RX1 25 yX5_put ∈ gT := tb_0 57 rfl rfl
theorem mw_X0_3 : Cond.methodLink RX0 3 objectInit ∈ gT := tb_0 106 rfl rfl
theorem mw_X4_1 : Cond.methodLink RX4 1 objectInit ∈ gT := tb_0 123 rfl rfl
theorem mw_X6_1 : Cond.methodLink RX6 1 objectInit ∈ gT := tb_0 141 rfl rfl
theorem mw_L_13 : Cond.methodLink RL 13 yX7_egg ∈ gT := tb_0 175 rfl rfl
theorem mw_X7_55 : Cond.methodLink RX7 55 yX5_takes ∈ gT := tb_0 179 rfl rfl
theorem mw_X7_61 : Cond.methodLink RX7 61 yX7_finding ∈ gT := tb_0 183 rfl rfl
theorem mw_X7_65 : Cond.methodLink RX7 65 yX1_emptyPlace ∈ gT := tb_0 188 rfl rfl
theorem mw_X1_79 : Cond.methodLink RX1 79 yX1_hasEgg ∈ gT := tb_0 192 rfl rfl
theorem mw_X1_71 : Cond.methodLink RX1 71 yX5_hasRow ∈ gT := tb_0 196 rfl rfl
theorem mw_X1_75 : Cond.methodLink RX1 75 yX5_at ∈ gT := tb_0 200 rfl rfl
theorem mw_X7_69 : Cond.methodLink RX7 69 yX1_layAt ∈ gT := tb_0 204 rfl rfl
theorem mw_L_18 : Cond.methodLink RL 18 yX7_of ∈ gT := tb_0 208 rfl rfl
theorem mw_X7_73 : Cond.methodLink RX7 73 yX1_hasEgg ∈ gT := tb_0 212 rfl rfl
theorem mw_X7_77 : Cond.methodLink RX7 77 yX7_within ∈ gT := tb_0 213 rfl rfl
theorem mw_X7_81 : Cond.methodLink RX7 81 yX1_minutesOf ∈ gT := tb_0 216 rfl rfl
theorem mw_X1_82 : Cond.methodLink RX1 82 yX1_minutesBehind ∈ gT := tb_0 220 rfl rfl
theorem mw_X1_86 : Cond.methodLink RX1 86 yX2_stays ∈ gT := tb_0 224 rfl rfl
theorem mw_X2_22 : Cond.methodLink RX2 22 yX2_keeps ∈ gT := tb_0 227 rfl rfl
theorem mw_X1_92 : Cond.methodLink RX1 92 Lib.Math.min.name ∈ gT := tb_0 232 rfl rfl
theorem mw_X1_97 : Cond.methodLink RX1 97 yX2_minutes ∈ gT := tb_0 233 rfl rfl
theorem mw_X2_7 : Cond.methodLink RX2 7 Lib.Math.max.name ∈ gT := tb_0 236 rfl rfl
theorem mw_X2_13 : Cond.methodLink RX2 13 Lib.Math.min.name ∈ gT := tb_0 239 rfl rfl
theorem mw_X7_84 : Cond.methodLink RX7 84 yX5_at ∈ gT := tb_1 0 rfl rfl
theorem mw_X7_88 : Cond.methodLink RX7 88 yX2_keeps ∈ gT := tb_1 1 rfl rfl
theorem mw_L_23 : Cond.methodLink RL 23 yX7_change ∈ gT := tb_1 2 rfl rfl
theorem mw_X7_93 : Cond.methodLink RX7 93 yX7_replace ∈ gT := tb_1 6 rfl rfl
theorem mw_X7_103 : Cond.methodLink RX7 103 yX5_hasRow ∈ gT := tb_1 10 rfl rfl
theorem mw_X7_162 : Cond.methodLink RX7 162 yX5_put ∈ gT := tb_1 11 rfl rfl
theorem mw_L_27 : Cond.methodLink RL 27 yX7_hen ∈ gT := tb_1 12 rfl rfl
theorem mw_L_31 : Cond.methodLink RL 31 yX7_work ∈ gT := tb_1 16 rfl rfl
theorem mw_L_35 : Cond.methodLink RL 35 yX7_henOf ∈ gT := tb_1 20 rfl rfl
theorem mw_X7_106 : Cond.methodLink RX7 106 yX5_hasColumn ∈ gT := tb_1 24 rfl rfl
theorem mw_L_39 : Cond.methodLink RL 39 yX7_workOf ∈ gT := tb_1 28 rfl rfl
theorem mw_X7_109 : Cond.methodLink RX7 109 yX1_isDone ∈ gT := tb_1 32 rfl rfl
theorem mw_X1_104 : Cond.methodLink RX1 104 yX1_lacks ∈ gT := tb_1 36 rfl rfl
theorem mw_L_43 : Cond.methodLink RL 43 yX7_spend ∈ gT := tb_1 40 rfl rfl
theorem mw_X7_112 : Cond.methodLink RX7 112 yX1_isInTime ∈ gT := tb_1 44 rfl rfl
theorem mw_X7_115 : Cond.methodLink RX7 115 yX1_spendOn ∈ gT := tb_1 48 rfl rfl
theorem mw_X1_100 : Cond.methodLink RX1 100 yX1_minutesOf ∈ gT := tb_1 52 rfl rfl
theorem mw_X1_110 : Cond.methodLink RX1 110 Lib.Math.max.name ∈ gT := tb_1 53 rfl rfl
theorem mw_X1_113 : Cond.methodLink RX1 113 yX1_empty ∈ gT := tb_1 54 rfl rfl
theorem mw_L_47 : Cond.methodLink RL 47 yX7_broken ∈ gT := tb_1 58 rfl rfl
theorem mw_X7_118 : Cond.methodLink RX7 118 yX1_empty ∈ gT := tb_1 62 rfl rfl
theorem mw_L_52 : Cond.methodLink RL 52 yX7_go ∈ gT := tb_1 63 rfl rfl
theorem mw_X7_127 : Cond.methodLink RX7 127 yX1_daysGoBy ∈ gT := tb_1 68 rfl rfl
theorem mw_X1_117 : Cond.methodLink RX1 117 yX1_eggsAge ∈ gT := tb_1 72 rfl rfl
theorem mw_X1_124 : Cond.methodLink RX1 124 yX2_keeps ∈ gT := tb_1 76 rfl rfl
theorem mw_X1_121 : Cond.methodLink RX1 121 yX1_hensLay ∈ gT := tb_1 77 rfl rfl
theorem mw_X1_127 : Cond.methodLink RX1 127 yX1_emptyPlace ∈ gT := tb_1 81 rfl rfl
theorem mw_X1_130 : Cond.methodLink RX1 130 yX1_layAt ∈ gT := tb_1 82 rfl rfl
theorem mw_X7_130 : Cond.methodLink RX7 130 yX1_places ∈ gT := tb_1 83 rfl rfl
theorem mw_X7_133 : Cond.methodLink RX7 133 yJ6_bitCount_0f7a4 ∈ gT := tb_1 87 rfl rfl
theorem mw_L_56 : Cond.methodLink RL 56 yX7_now ∈ gT := tb_1 93 rfl rfl
theorem mw_X7_138 : Cond.methodLink RX7 138 yX1_allMinutes ∈ gT := tb_1 97 rfl rfl
theorem mw_X7_141 : Cond.methodLink RX7 141 yX1_doneWorks ∈ gT := tb_1 101 rfl rfl
theorem mw_X1_107 : Cond.methodLink RX1 107 yX1_isDone ∈ gT := tb_1 105 rfl rfl
theorem mw_L_60 : Cond.methodLink RL 60 yX7_ahead ∈ gT := tb_1 106 rfl rfl
theorem mw_X7_147 : Cond.methodLink RX7 147 yX1_become ∈ gT := tb_1 110 rfl rfl
theorem mw_X1_61 : Cond.methodLink RX1 61 yX5_become ∈ gT := tb_1 114 rfl rfl
theorem mw_L_64 : Cond.methodLink RL 64 yX7_spoils ∈ gT := tb_1 122 rfl rfl
theorem mw_L_68 : Cond.methodLink RL 68 yX7_ripe ∈ gT := tb_1 126 rfl rfl
theorem mw_X7_151 : Cond.methodLink RX7 151 yX2_stays ∈ gT := tb_1 130 rfl rfl
theorem mw_X7_154 : Cond.methodLink RX7 154 yX1_minutesBehind ∈ gT := tb_1 131 rfl rfl
theorem mw_L_72 : Cond.methodLink RL 72 yX7_lasts ∈ gT := tb_1 132 rfl rfl
theorem mw_L_76 : Cond.methodLink RL 76 yX7_when ∈ gT := tb_1 136 rfl rfl
theorem mw_L_80 : Cond.methodLink RL 80 yX7_kindFor ∈ gT := tb_1 140 rfl rfl
theorem mw_L_84 : Cond.methodLink RL 84 yX7_everyFor ∈ gT := tb_1 144 rfl rfl
theorem mw_X7_158 : Cond.methodLink RX7 158 yX7_minutesWithEvery ∈ gT := tb_1 148 rfl rfl
theorem mw_L_88 : Cond.methodLink RL 88 yX7_fewest ∈ gT := tb_1 152 rfl rfl
theorem mw_X7_166 : Cond.methodLink RX7 166 yX0_lookAt ∈ gT := tb_1 156 rfl rfl
theorem mw_X0_18 : Cond.methodLink RX0 18 yX1_places ∈ gT := tb_1 160 rfl rfl
theorem mw_X0_25 : Cond.methodLink RX0 25 yX1_minutesOf ∈ gT := tb_1 161 rfl rfl
theorem mw_X7_169 : Cond.methodLink RX7 169 yX0_fewestFor ∈ gT := tb_1 162 rfl rfl
theorem mw_X0_42 : Cond.methodLink RX0 42 yX0_does ∈ gT := tb_1 166 rfl rfl
theorem mw_X0_29 : Cond.methodLink RX0 29 yX0_isOfEggs ∈ gT := tb_1 170 rfl rfl
theorem mw_X0_33 : Cond.methodLink RX0 33 yX1_isInTime ∈ gT := tb_1 174 rfl rfl
theorem mw_X0_36 : Cond.methodLink RX0 36 yX0_sumOf ∈ gT := tb_1 175 rfl rfl
theorem mw_X0_39 : Cond.methodLink RX0 39 yX1_lacks ∈ gT := tb_1 179 rfl rfl
theorem mw_X0_46 : Cond.methodLink RX0 46 yJ6_bitCount_0f7a4 ∈ gT := tb_1 180 rfl rfl
theorem mw_L_92 : Cond.methodLink RL 92 yX7_thrifty ∈ gT := tb_1 181 rfl rfl
theorem mw_X7_173 : Cond.methodLink RX7 173 yX0_leastFor ∈ gT := tb_1 185 rfl rfl
theorem mw_L_96 : Cond.methodLink RL 96 yX7_best ∈ gT := tb_1 189 rfl rfl
theorem mw_X7_176 : Cond.methodLink RX7 176 yX0_bestMark ∈ gT := tb_1 193 rfl rfl
theorem mw_X0_55 : Cond.methodLink RX0 55 yX5_at ∈ gT := tb_1 197 rfl rfl
theorem mw_X0_61 : Cond.methodLink RX0 61 yX1_isDone ∈ gT := tb_1 198 rfl rfl
theorem mw_X0_64 : Cond.methodLink RX0 64 yX0_offer ∈ gT := tb_1 199 rfl rfl
theorem mw_X0_71 : Cond.methodLink RX0 71 yX0_bestWithOneMore ∈ gT := tb_1 203 rfl rfl
theorem mw_X0_68 : Cond.methodLink RX0 68 yX0_markOf ∈ gT := tb_1 207 rfl rfl
theorem mw_X0_75 : Cond.methodLink RX0 75 Lib.Math.max.name ∈ gT := tb_1 211 rfl rfl
theorem mw_X7_180 : Cond.methodLink RX7 180 yX0_worthOf ∈ gT := tb_1 212 rfl rfl
theorem mw_L_101 : Cond.methodLink RL 101 yX7_bestWorks ∈ gT := tb_1 215 rfl rfl
theorem mw_X7_183 : Cond.methodLink RX7 183 yX0_worksOf ∈ gT := tb_1 219 rfl rfl
theorem mw_X0_80 : Cond.methodLink RX0 80 yX0_worthOf ∈ gT := tb_1 222 rfl rfl
theorem mw_L_105 : Cond.methodLink RL 105 yX7_soonest ∈ gT := tb_1 223 rfl rfl
theorem mw_X7_186 : Cond.methodLink RX7 186 yX1_lacks ∈ gT := tb_1 227 rfl rfl
theorem mw_L_109 : Cond.methodLink RL 109 yX7_nest ∈ gT := tb_1 228 rfl rfl
theorem mw_X7_189 : Cond.methodLink RX7 189 yX1_minutesIn ∈ gT := tb_1 232 rfl rfl
theorem mw_L_113 : Cond.methodLink RL 113 yX7_guard ∈ gT := tb_1 236 rfl rfl
theorem mw_L_117 : Cond.methodLink RL 117 yX7_halves ∈ gT := tb_2 0 rfl rfl
theorem mw_X7_192 : Cond.methodLink RX7 192 yX0_nearestHalf ∈ gT := tb_2 4 rfl rfl
theorem mw_X0_83 : Cond.methodLink RX0 83 yX0_apartWith ∈ gT := tb_2 8 rfl rfl
theorem mw_X0_86 : Cond.methodLink RX0 86 Lib.Math.abs.name ∈ gT := tb_2 12 rfl rfl
theorem mw_L_121 : Cond.methodLink RL 121 yX7_apart ∈ gT := tb_2 15 rfl rfl
theorem mw_X7_195 : Cond.methodLink RX7 195 yX0_apartWith ∈ gT := tb_2 19 rfl rfl
theorem mw_L_125 : Cond.methodLink RL 125 yX7_sets ∈ gT := tb_2 20 rfl rfl
theorem mw_X7_198 : Cond.methodLink RX7 198 yX0_setsOf ∈ gT := tb_2 24 rfl rfl
theorem mw_L_129 : Cond.methodLink RL 129 yX7_ages ∈ gT := tb_2 28 rfl rfl
theorem mw_X7_201 : Cond.methodLink RX7 201 yX7_wrongTold ∈ gT := tb_2 32 rfl rfl
theorem mw_X7_212 : Cond.methodLink RX7 212 yX7_wrongSheet ∈ gT := tb_2 36 rfl rfl
theorem mw_X7_204 : Cond.methodLink RX7 204 yX7_sheetAt ∈ gT := tb_2 40 rfl rfl
theorem mw_X7_260 : Cond.methodLink RX7 260 yX4_isMissing ∈ gT := tb_2 44 rfl rfl
theorem mw_X7_208 : Cond.methodLink RX7 208 yX7_fits ∈ gT := tb_2 48 rfl rfl
theorem mw_X7_218 : Cond.methodLink RX7 218 yX4_at ∈ gT := tb_2 52 rfl rfl
theorem mw_L_133 : Cond.methodLink RL 133 yX7_youngest ∈ gT := tb_2 56 rfl rfl
theorem mw_L_137 : Cond.methodLink RL 137 yX7_foxes ∈ gT := tb_2 60 rfl rfl
theorem mw_X7_220 : Cond.methodLink RX7 220 yX1_foxComes ∈ gT := tb_2 64 rfl rfl
theorem mw_L_141 : Cond.methodLink RL 141 yX7_odds ∈ gT := tb_2 69 rfl rfl
theorem mw_L_146 : Cond.methodLink RL 146 yX7_seed ∈ gT := tb_2 75 rfl rfl
theorem mw_L_150 : Cond.methodLink RL 150 yX7_feed ∈ gT := tb_2 79 rfl rfl
theorem mw_X7_231 : Cond.methodLink RX7 231 yX6_append ∈ gT := tb_2 83 rfl rfl
theorem mw_L_154 : Cond.methodLink RL 154 yX7_wipe ∈ gT := tb_2 87 rfl rfl
theorem mw_L_158 : Cond.methodLink RL 158 yX7_text ∈ gT := tb_2 91 rfl rfl
theorem mw_X7_236 : Cond.methodLink RX7 236 yX3_init ∈ gT := tb_2 97 rfl rfl
theorem mw_X3_3 : Cond.methodLink RX3 3 objectInit ∈ gT := tb_2 100 rfl rfl
theorem mw_X7_239 : Cond.methodLink RX7 239 yX3_readText ∈ gT := tb_2 120 rfl rfl
theorem mw_X3_19 : Cond.methodLink RX3 19 yX3_advance ∈ gT := tb_2 124 rfl rfl
theorem mw_X3_131 : Cond.methodLink RX3 131 yX6_at ∈ gT := tb_2 128 rfl rfl
theorem mw_X3_134 : Cond.methodLink RX3 134 yX3_sortOf ∈ gT := tb_2 132 rfl rfl
theorem mw_X3_138 : Cond.methodLink RX3 138 Lib.Math.min.name ∈ gT := tb_2 136 rfl rfl
theorem mw_X3_24 : Cond.methodLink RX3 24 yX3_kindAhead ∈ gT := tb_2 137 rfl rfl
theorem mw_X3_101 : Cond.methodLink RX3 101 yX3_wordOf ∈ gT := tb_2 141 rfl rfl
theorem mw_X3_34 : Cond.methodLink RX3 34 yX3_isAhead ∈ gT := tb_2 151 rfl rfl
theorem mw_X3_119 : Cond.methodLink RX3 119 yJ0_length_8abf5 ∈ gT := tb_2 155 rfl rfl
theorem mw_J0_335 : Cond.methodLink RJ0 335 yJ0_coder_7d493 ∈ gT := tb_2 159 rfl rfl
theorem mw_X3_127 : Cond.methodLink RX3 127 yJ0_charAt_5068e ∈ gT := tb_2 165 rfl rfl
theorem mw_J0_492 : Cond.methodLink RJ0 492 yJ0_isLatin1_aae02 ∈ gT := tb_2 169 rfl rfl
theorem mw_J0_495 : Cond.methodLink RJ0 495 yJ1_charAt_3b067 ∈ gT := tb_2 173 rfl rfl
theorem mw_J1_9 : Cond.methodLink RJ1 9 yJ0_checkIndex_df160 ∈ gT := tb_2 176 rfl rfl
theorem mw_J0_1059 : Cond.methodLink RJ0 1059 yJ3_checkIndex_8e157 ∈ gT := tb_2 181 rfl rfl
theorem mw_J0_498 : Cond.methodLink RJ0 498 yJ2_charAt_3b067 ∈ gT := tb_2 184 rfl rfl
theorem mw_J2_67 : Cond.methodLink RJ2 67 yJ2_checkIndex_2214a ∈ gT := tb_2 187 rfl rfl
theorem mw_J2_48 : Cond.methodLink RJ2 48 yJ2_length_9d52b ∈ gT := tb_2 190 rfl rfl
theorem mw_J2_414 : Cond.methodLink RJ2 414 yJ0_checkIndex_df160 ∈ gT := tb_2 193 rfl rfl
theorem mw_J2_71 : Cond.methodLink RJ2 71 yJ2_getChar_3b067 ∈ gT := tb_2 194 rfl rfl
theorem mw_X3_28 : Cond.methodLink RX3 28 yX3_readEgg ∈ gT := tb_2 203 rfl rfl
theorem mw_X3_52 : Cond.methodLink RX3 52 yX1_emptyPlace ∈ gT := tb_2 207 rfl rfl
theorem mw_X3_57 : Cond.methodLink RX3 57 yX3_readNumber ∈ gT := tb_2 208 rfl rfl
theorem mw_X3_63 : Cond.methodLink RX3 63 yX3_readPerhaps ∈ gT := tb_2 213 rfl rfl
theorem mw_X3_69 : Cond.methodLink RX3 69 yX1_layAt ∈ gT := tb_2 218 rfl rfl
theorem mw_X3_38 : Cond.methodLink RX3 38 yX3_readHen ∈ gT := tb_2 220 rfl rfl
theorem mw_X3_77 : Cond.methodLink RX3 77 yX5_put ∈ gT := tb_2 224 rfl rfl
theorem mw_X3_42 : Cond.methodLink RX3 42 yX3_readWork ∈ gT := tb_2 225 rfl rfl
theorem mw_X3_91 : Cond.methodLink RX3 91 yX5_at ∈ gT := tb_2 232 rfl rfl
theorem mw_L_162 : Cond.methodLink RL 162 yX7_hold ∈ gT := tb_2 235 rfl rfl
theorem mw_X7_242 : Cond.methodLink RX7 242 yX1_setSpot ∈ gT := tb_2 239 rfl rfl
theorem mw_L_166 : Cond.methodLink RL 166 yX7_as ∈ gT := tb_3 3 rfl rfl
theorem mw_X7_246 : Cond.methodLink RX7 246 yX1_spotAt ∈ gT := tb_3 7 rfl rfl
theorem mw_X7_249 : Cond.methodLink RX7 249 yX2_isUnder ∈ gT := tb_3 11 rfl rfl
theorem mw_L_170 : Cond.methodLink RL 170 yX7_sheet ∈ gT := tb_3 16 rfl rfl
theorem mw_X7_252 : Cond.methodLink RX7 252 yX4_hasWidth ∈ gT := tb_3 20 rfl rfl
theorem mw_X7_255 : Cond.methodLink RX7 255 yX4_makeNew ∈ gT := tb_3 23 rfl rfl
theorem mw_X4_17 : Cond.methodLink RX4 17 Lib.Math.min.name ∈ gT := tb_3 27 rfl rfl
theorem mw_X4_23 : Cond.methodLink RX4 23 Lib.Math.max.name ∈ gT := tb_3 28 rfl rfl
theorem mw_L_174 : Cond.methodLink RL 174 yX7_write ∈ gT := tb_3 29 rfl rfl
theorem mw_X7_258 : Cond.methodLink RX7 258 yX4_put ∈ gT := tb_3 33 rfl rfl
theorem mw_L_178 : Cond.methodLink RL 178 yX7_copy ∈ gT := tb_3 37 rfl rfl
theorem mw_X7_267 : Cond.methodLink RX7 267 yX4_hasNumbers ∈ gT := tb_3 41 rfl rfl
theorem mw_X7_270 : Cond.methodLink RX7 270 yX7_copyNumbers ∈ gT := tb_3 45 rfl rfl
theorem mw_L_183 : Cond.methodLink RL 183 yX7_load ∈ gT := tb_3 48 rfl rfl
theorem mw_L_187 : Cond.methodLink RL 187 yX7_judge ∈ gT := tb_3 52 rfl rfl
theorem mw_L_191 : Cond.methodLink RL 191 yX7_image ∈ gT := tb_3 56 rfl rfl
theorem mw_L_195 : Cond.methodLink RL 195 yX7_undo ∈ gT := tb_3 60 rfl rfl
theorem mw_L_199 : Cond.methodLink RL 199 yX7_tear ∈ gT := tb_3 64 rfl rfl
theorem mw_L_203 : Cond.methodLink RL 203 yX7_count ∈ gT := tb_3 68 rfl rfl
theorem mw_X7_274 : Cond.methodLink RX7 274 yX1_heldSpots ∈ gT := tb_3 72 rfl rfl
theorem mw_X1_135 : Cond.methodLink RX1 135 yX1_spotAt ∈ gT := tb_3 76 rfl rfl
theorem mw_L_207 : Cond.methodLink RL 207 yX7_status ∈ gT := tb_3 77 rfl rfl
theorem mw_L_12 : Cond.methodLink RL 12 yX8_init ∈ gT := tb_3 83 rfl rfl
theorem mw_X8_1 : Cond.methodLink RX8 1 objectInit ∈ gT := tb_3 86 rfl rfl
theorem mw_L_17 : Cond.methodLink RL 17 yX8_egg ∈ gT := tb_3 154 rfl rfl
theorem mw_X8_59 : Cond.methodLink RX8 59 yX8_in1 ∈ gT := tb_3 158 rfl rfl
theorem mw_X8_119 : Cond.methodLink RX8 119 yX8_no ∈ gT := tb_3 161 rfl rfl
theorem mw_X8_116 : Cond.methodLink RX8 116 yX8_lays ∈ gT := tb_3 166 rfl rfl
theorem mw_X8_102 : Cond.methodLink RX8 102 yX8_free ∈ gT := tb_3 170 rfl rfl
theorem mw_X8_71 : Cond.methodLink RX8 71 yX8_isThere ∈ gT := tb_3 174 rfl rfl
theorem mw_X8_63 : Cond.methodLink RX8 63 yX8_get ∈ gT := tb_3 178 rfl rfl
theorem mw_X8_105 : Cond.methodLink RX8 105 yX8_puts ∈ gT := tb_3 182 rfl rfl
theorem mw_L_22 : Cond.methodLink RL 22 yX8_of ∈ gT := tb_3 186 rfl rfl
theorem mw_X8_122 : Cond.methodLink RX8 122 yX8_isEgg ∈ gT := tb_3 190 rfl rfl
theorem mw_X8_67 : Cond.methodLink RX8 67 yX8_isPlace ∈ gT := tb_3 194 rfl rfl
theorem mw_X8_92 : Cond.methodLink RX8 92 yX8_minutes ∈ gT := tb_3 197 rfl rfl
theorem mw_X8_80 : Cond.methodLink RX8 80 yX8_minutesBy ∈ gT := tb_3 201 rfl rfl
theorem mw_X8_74 : Cond.methodLink RX8 74 yX8_greater ∈ gT := tb_3 204 rfl rfl
theorem mw_X8_77 : Cond.methodLink RX8 77 yX8_less ∈ gT := tb_3 207 rfl rfl
theorem mw_X8_84 : Cond.methodLink RX8 84 yX8_keepsBy ∈ gT := tb_3 210 rfl rfl
theorem mw_L_26 : Cond.methodLink RL 26 yX8_change ∈ gT := tb_3 213 rfl rfl
theorem mw_L_30 : Cond.methodLink RL 30 yX8_hen ∈ gT := tb_3 217 rfl rfl
theorem mw_X8_125 : Cond.methodLink RX8 125 yX8_isHen ∈ gT := tb_3 221 rfl rfl
theorem mw_X8_113 : Cond.methodLink RX8 113 yX8_hens ∈ gT := tb_3 224 rfl rfl
theorem mw_L_34 : Cond.methodLink RL 34 yX8_work ∈ gT := tb_3 228 rfl rfl
theorem mw_X8_128 : Cond.methodLink RX8 128 yX8_isWork ∈ gT := tb_3 232 rfl rfl
theorem mw_X8_131 : Cond.methodLink RX8 131 yX8_works ∈ gT := tb_3 235 rfl rfl
theorem mw_L_38 : Cond.methodLink RL 38 yX8_henOf ∈ gT := tb_3 239 rfl rfl
theorem mw_L_42 : Cond.methodLink RL 42 yX8_workOf ∈ gT := tb_4 3 rfl rfl
theorem mw_X8_134 : Cond.methodLink RX8 134 yX8_isDone ∈ gT := tb_4 7 rfl rfl
theorem mw_L_46 : Cond.methodLink RL 46 yX8_spend ∈ gT := tb_4 11 rfl rfl
theorem mw_X8_137 : Cond.methodLink RX8 137 yX8_isOver ∈ gT := tb_4 15 rfl rfl
theorem mw_X8_109 : Cond.methodLink RX8 109 yX8_goesEgg ∈ gT := tb_4 19 rfl rfl
theorem mw_L_51 : Cond.methodLink RL 51 yX8_broken ∈ gT := tb_4 23 rfl rfl
theorem mw_L_55 : Cond.methodLink RL 55 yX8_go ∈ gT := tb_4 27 rfl rfl
theorem mw_X8_140 : Cond.methodLink RX8 140 yX8_day ∈ gT := tb_4 31 rfl rfl
theorem mw_X8_95 : Cond.methodLink RX8 95 yX8_eggs ∈ gT := tb_4 35 rfl rfl
theorem mw_X8_143 : Cond.methodLink RX8 143 yX8_bits ∈ gT := tb_4 39 rfl rfl
theorem mw_L_59 : Cond.methodLink RL 59 yX8_now ∈ gT := tb_4 42 rfl rfl
theorem mw_X8_146 : Cond.methodLink RX8 146 yX8_allMinutes ∈ gT := tb_4 46 rfl rfl
theorem mw_X8_99 : Cond.methodLink RX8 99 yX8_sumOf ∈ gT := tb_4 50 rfl rfl
theorem mw_X8_88 : Cond.methodLink RX8 88 yX8_isIn ∈ gT := tb_4 54 rfl rfl
theorem mw_X8_149 : Cond.methodLink RX8 149 yX8_done ∈ gT := tb_4 57 rfl rfl
theorem mw_L_63 : Cond.methodLink RL 63 yX8_ahead ∈ gT := tb_4 61 rfl rfl
theorem mw_X8_152 : Cond.methodLink RX8 152 yX8_setsAside ∈ gT := tb_4 65 rfl rfl
theorem mw_X8_155 : Cond.methodLink RX8 155 yX8_laysBack ∈ gT := tb_4 69 rfl rfl
theorem mw_L_67 : Cond.methodLink RL 67 yX8_spoils ∈ gT := tb_4 73 rfl rfl
theorem mw_L_71 : Cond.methodLink RL 71 yX8_ripe ∈ gT := tb_4 77 rfl rfl
theorem mw_X8_158 : Cond.methodLink RX8 158 yX8_then ∈ gT := tb_4 81 rfl rfl
theorem mw_L_75 : Cond.methodLink RL 75 yX8_lasts ∈ gT := tb_4 85 rfl rfl
theorem mw_L_79 : Cond.methodLink RL 79 yX8_when ∈ gT := tb_4 89 rfl rfl
theorem mw_L_83 : Cond.methodLink RL 83 yX8_kindFor ∈ gT := tb_4 93 rfl rfl
theorem mw_L_87 : Cond.methodLink RL 87 yX8_everyFor ∈ gT := tb_4 97 rfl rfl
theorem mw_L_91 : Cond.methodLink RL 91 yX8_fewest ∈ gT := tb_4 101 rfl rfl
theorem mw_X8_161 : Cond.methodLink RX8 161 yX8_does ∈ gT := tb_4 105 rfl rfl
theorem mw_L_95 : Cond.methodLink RL 95 yX8_thrifty ∈ gT := tb_4 109 rfl rfl
theorem mw_L_100 : Cond.methodLink RL 100 yX8_best ∈ gT := tb_4 113 rfl rfl
theorem mw_X8_173 : Cond.methodLink RX8 173 yX8_bestSet ∈ gT := tb_4 117 rfl rfl
theorem mw_X8_167 : Cond.methodLink RX8 167 yX8_dealt ∈ gT := tb_4 121 rfl rfl
theorem mw_X8_164 : Cond.methodLink RX8 164 yX8_lowest ∈ gT := tb_4 125 rfl rfl
theorem mw_X8_170 : Cond.methodLink RX8 170 yX8_worthOf ∈ gT := tb_4 128 rfl rfl
theorem mw_L_104 : Cond.methodLink RL 104 yX8_bestWorks ∈ gT := tb_4 132 rfl rfl
theorem mw_L_108 : Cond.methodLink RL 108 yX8_soonest ∈ gT := tb_4 136 rfl rfl
theorem mw_L_112 : Cond.methodLink RL 112 yX8_nest ∈ gT := tb_4 140 rfl rfl
theorem mw_X8_176 : Cond.methodLink RX8 176 yX8_inNest ∈ gT := tb_4 144 rfl rfl
theorem mw_L_116 : Cond.methodLink RL 116 yX8_guard ∈ gT := tb_4 148 rfl rfl
theorem mw_L_120 : Cond.methodLink RL 120 yX8_halves ∈ gT := tb_4 152 rfl rfl
theorem mw_X8_182 : Cond.methodLink RX8 182 yX8_bestHalf ∈ gT := tb_4 156 rfl rfl
theorem mw_X8_179 : Cond.methodLink RX8 179 yX8_apartBy ∈ gT := tb_4 160 rfl rfl
theorem mw_L_124 : Cond.methodLink RL 124 yX8_apart ∈ gT := tb_4 164 rfl rfl
theorem mw_L_128 : Cond.methodLink RL 128 yX8_sets ∈ gT := tb_4 168 rfl rfl
theorem mw_L_132 : Cond.methodLink RL 132 yX8_ages ∈ gT := tb_4 172 rfl rfl
theorem mw_X8_191 : Cond.methodLink RX8 191 yX8_wrongAges ∈ gT := tb_4 176 rfl rfl
theorem mw_X8_188 : Cond.methodLink RX8 188 yX8_wrongSheet ∈ gT := tb_4 180 rfl rfl
theorem mw_X8_185 : Cond.methodLink RX8 185 yX8_isSheet ∈ gT := tb_4 184 rfl rfl
theorem mw_X8_194 : Cond.methodLink RX8 194 yX8_agesSo ∈ gT := tb_4 187 rfl rfl
theorem mw_L_136 : Cond.methodLink RL 136 yX8_youngest ∈ gT := tb_4 191 rfl rfl
theorem mw_L_140 : Cond.methodLink RL 140 yX8_foxes ∈ gT := tb_4 195 rfl rfl
theorem mw_X8_198 : Cond.methodLink RX8 198 yX8_draw ∈ gT := tb_4 199 rfl rfl
theorem mw_L_145 : Cond.methodLink RL 145 yX8_odds ∈ gT := tb_4 204 rfl rfl
theorem mw_L_149 : Cond.methodLink RL 149 yX8_seed ∈ gT := tb_4 210 rfl rfl
theorem mw_L_153 : Cond.methodLink RL 153 yX8_feed ∈ gT := tb_4 214 rfl rfl
theorem mw_L_157 : Cond.methodLink RL 157 yX8_wipe ∈ gT := tb_4 218 rfl rfl
theorem mw_L_161 : Cond.methodLink RL 161 yX8_text ∈ gT := tb_4 222 rfl rfl
theorem mw_X8_240 : Cond.methodLink RX8 240 yX8_nextToken ∈ gT := tb_4 226 rfl rfl
theorem mw_X8_222 : Cond.methodLink RX8 222 yX8_isLetter ∈ gT := tb_4 230 rfl rfl
theorem mw_X8_231 : Cond.methodLink RX8 231 yX8_isDigit ∈ gT := tb_4 236 rfl rfl
theorem mw_X8_260 : Cond.methodLink RX8 260 yX8_readsItem ∈ gT := tb_5 2 rfl rfl
theorem mw_X8_246 : Cond.methodLink RX8 246 yX8_wordOf ∈ gT := tb_5 6 rfl rfl
theorem mw_X8_250 : Cond.methodLink RX8 250 yX8_readsEgg ∈ gT := tb_5 10 rfl rfl
theorem mw_X8_243 : Cond.methodLink RX8 243 yX8_takesNumber ∈ gT := tb_5 14 rfl rfl
theorem mw_X8_253 : Cond.methodLink RX8 253 yX8_readsHen ∈ gT := tb_5 18 rfl rfl
theorem mw_X8_257 : Cond.methodLink RX8 257 yX8_readsWork ∈ gT := tb_5 22 rfl rfl
theorem mw_L_165 : Cond.methodLink RL 165 yX8_hold ∈ gT := tb_5 26 rfl rfl
theorem mw_X8_263 : Cond.methodLink RX8 263 yX8_isSpot ∈ gT := tb_5 30 rfl rfl
theorem mw_L_169 : Cond.methodLink RL 169 yX8_as ∈ gT := tb_5 33 rfl rfl
theorem mw_X8_266 : Cond.methodLink RX8 266 yX8_above ∈ gT := tb_5 37 rfl rfl
theorem mw_L_173 : Cond.methodLink RL 173 yX8_sheet ∈ gT := tb_5 40 rfl rfl
theorem mw_L_177 : Cond.methodLink RL 177 yX8_write ∈ gT := tb_5 44 rfl rfl
theorem mw_L_182 : Cond.methodLink RL 182 yX8_copy ∈ gT := tb_5 48 rfl rfl
theorem mw_L_186 : Cond.methodLink RL 186 yX8_load ∈ gT := tb_5 52 rfl rfl
theorem mw_L_190 : Cond.methodLink RL 190 yX8_judge ∈ gT := tb_5 56 rfl rfl
theorem mw_L_194 : Cond.methodLink RL 194 yX8_image ∈ gT := tb_5 60 rfl rfl
theorem mw_L_198 : Cond.methodLink RL 198 yX8_undo ∈ gT := tb_5 64 rfl rfl
theorem mw_L_202 : Cond.methodLink RL 202 yX8_tear ∈ gT := tb_5 68 rfl rfl
theorem mw_L_206 : Cond.methodLink RL 206 yX8_count ∈ gT := tb_5 72 rfl rfl
theorem mw_L_210 : Cond.methodLink RL 210 yX8_status ∈ gT := tb_5 76 rfl rfl
theorem mn_X7_24 : (RX7, 24, yX0_init) ∈ nests := by decide +kernel
theorem mn_X7_35 : (RX7, 35, yX4_init) ∈ nests := by decide +kernel
theorem mn_X7_38 : (RX7, 38, yX6_init) ∈ nests := by decide +kernel
theorem mn_X5_29 : (RX5, 29, yX7_copyRow) ∈ nests := by decide +kernel
theorem mn_X1_65 : (RX1, 65, yX7_copyRow) ∈ nests := by decide +kernel
theorem fw_X1_11 : Cond.fieldLink RX1 11 "HourEggs$House" "EGG_LEAST" "[I" ∈ gT := tb_0 32 rfl rfl
theorem fw_X1_15 : Cond.fieldLink RX1 15 "HourEggs$House" "EGG_MOST" "[I" ∈ gT := tb_0 34 rfl rfl
theorem fw_X5_15 : Cond.fieldLink RX5 15 (TX5 0).1 (TX5 0).2.1 (TX5 0).2.2.1 ∈ gT := tb_0 43 rfl rfl
theorem fw_X5_19 : Cond.fieldLink RX5 19 (TX5 1).1 (TX5 1).2.1 (TX5 1).2.2.1 ∈ gT := tb_0 44 rfl rfl
theorem fw_X5_23 : Cond.fieldLink RX5 23 (TX5 2).1 (TX5 2).2.1 (TX5 2).2.2.1 ∈ gT := tb_0 45 rfl rfl
theorem fw_X5_26 : Cond.fieldLink RX5 26 (TX5 3).1 (TX5 3).2.1 (TX5 3).2.2.1 ∈ gT := tb_0 46 rfl rfl
theorem fw_X1_29 : Cond.fieldLink RX1 29 "HourEggs$House" "HEN_LEAST" "[I" ∈ gT := tb_0 61 rfl rfl
theorem fw_X1_32 : Cond.fieldLink RX1 32 "HourEggs$House" "HEN_MOST" "[I" ∈ gT := tb_0 63 rfl rfl
theorem fw_X1_38 : Cond.fieldLink RX1 38 "HourEggs$House" "WORK_LEAST" "[I" ∈ gT := tb_0 65 rfl rfl
theorem fw_X1_41 : Cond.fieldLink RX1 41 "HourEggs$House" "WORK_MOST" "[I" ∈ gT := tb_0 67 rfl rfl
theorem fw_X1_21 : Cond.fieldLink RX1 21 (TX1 0).1 (TX1 0).2.1 (TX1 0).2.2.1 ∈ gT := tb_0 70 rfl rfl
theorem fw_X7_51 : Cond.fieldLink RX7 51 (TX1 0).1 (TX1 0).2.1 (TX1 0).2.2.1 ∈ gT := tb_0 71 rfl rfl
theorem fw_X1_35 : Cond.fieldLink RX1 35 (TX1 1).1 (TX1 1).2.1 (TX1 1).2.2.1 ∈ gT := tb_0 72 rfl rfl
theorem fw_X3_73 : Cond.fieldLink RX3 73 (TX1 1).1 (TX1 1).2.1 (TX1 1).2.2.1 ∈ gT := tb_0 73 rfl rfl
theorem fw_X7_97 : Cond.fieldLink RX7 97 (TX1 1).1 (TX1 1).2.1 (TX1 1).2.2.1 ∈ gT := tb_0 74 rfl rfl
theorem fw_X1_44 : Cond.fieldLink RX1 44 (TX1 2).1 (TX1 2).2.1 (TX1 2).2.2.1 ∈ gT := tb_0 75 rfl rfl
theorem fw_X3_88 : Cond.fieldLink RX3 88 (TX1 2).1 (TX1 2).2.1 (TX1 2).2.2.1 ∈ gT := tb_0 76 rfl rfl
theorem fw_X7_100 : Cond.fieldLink RX7 100 (TX1 2).1 (TX1 2).2.1 (TX1 2).2.2.1 ∈ gT := tb_0 77 rfl rfl
theorem fw_X0_51 : Cond.fieldLink RX0 51 (TX1 2).1 (TX1 2).2.1 (TX1 2).2.2.1 ∈ gT := tb_0 78 rfl rfl
theorem fw_X1_48 : Cond.fieldLink RX1 48 (TX1 3).1 (TX1 3).2.1 (TX1 3).2.2.1 ∈ gT := tb_0 79 rfl rfl
theorem fw_X1_51 : Cond.fieldLink RX1 51 (TX1 4).1 (TX1 4).2.1 (TX1 4).2.2.1 ∈ gT := tb_0 80 rfl rfl
theorem fw_X7_122 : Cond.fieldLink RX7 122 (TX1 4).1 (TX1 4).2.1 (TX1 4).2.2.1 ∈ gT := tb_0 81 rfl rfl
theorem fw_X1_55 : Cond.fieldLink RX1 55 (TX1 5).1 (TX1 5).2.1 (TX1 5).2.2.1 ∈ gT := tb_0 82 rfl rfl
theorem fw_X7_144 : Cond.fieldLink RX7 144 (TX1 5).1 (TX1 5).2.1 (TX1 5).2.2.1 ∈ gT := tb_0 83 rfl rfl
theorem fw_X1_58 : Cond.fieldLink RX1 58 (TX1 6).1 (TX1 6).2.1 (TX1 6).2.2.1 ∈ gT := tb_0 84 rfl rfl
theorem fw_X7_227 : Cond.fieldLink RX7 227 (TX1 6).1 (TX1 6).2.1 (TX1 6).2.2.1 ∈ gT := tb_0 85 rfl rfl
theorem fw_X0_11 : Cond.fieldLink RX0 11 (TX0 0).1 (TX0 0).2.1 (TX0 0).2.2.1 ∈ gT := tb_0 107 rfl rfl
theorem fw_X0_15 : Cond.fieldLink RX0 15 (TX0 1).1 (TX0 1).2.1 (TX0 1).2.2.1 ∈ gT := tb_0 108 rfl rfl
theorem fw_X0_22 : Cond.fieldLink RX0 22 (TX0 2).1 (TX0 2).2.1 (TX0 2).2.2.1 ∈ gT := tb_0 109 rfl rfl
theorem fw_X4_9 : Cond.fieldLink RX4 9 (TX4 0).1 (TX4 0).2.1 (TX4 0).2.2.1 ∈ gT := tb_0 124 rfl rfl
theorem fw_X4_13 : Cond.fieldLink RX4 13 (TX4 1).1 (TX4 1).2.1 (TX4 1).2.2.1 ∈ gT := tb_0 125 rfl rfl
theorem fw_X7_264 : Cond.fieldLink RX7 264 (TX4 1).1 (TX4 1).2.1 (TX4 1).2.2.1 ∈ gT := tb_0 126 rfl rfl
theorem fw_X4_26 : Cond.fieldLink RX4 26 (TX4 2).1 (TX4 2).2.1 (TX4 2).2.2.1 ∈ gT := tb_0 127 rfl rfl
theorem fw_X7_215 : Cond.fieldLink RX7 215 (TX4 2).1 (TX4 2).2.1 (TX4 2).2.2.1 ∈ gT := tb_0 128 rfl rfl
theorem fw_X6_9 : Cond.fieldLink RX6 9 (TX6 0).1 (TX6 0).2.1 (TX6 0).2.2.1 ∈ gT := tb_0 142 rfl rfl
theorem fw_X6_13 : Cond.fieldLink RX6 13 (TX6 1).1 (TX6 1).2.1 (TX6 1).2.2.1 ∈ gT := tb_0 143 rfl rfl
theorem fw_X7_230 : Cond.fieldLink RX7 230 (TX6 1).1 (TX6 1).2.1 (TX6 1).2.2.1 ∈ gT := tb_0 144 rfl rfl
theorem fw_X7_10 : Cond.fieldLink RX7 10 (TX7 0).1 (TX7 0).2.1 (TX7 0).2.2.1 ∈ gT := tb_0 150 rfl rfl
theorem fw_X7_16 : Cond.fieldLink RX7 16 (TX7 1).1 (TX7 1).2.1 (TX7 1).2.2.1 ∈ gT := tb_0 151 rfl rfl
theorem fw_X7_19 : Cond.fieldLink RX7 19 (TX7 2).1 (TX7 2).2.1 (TX7 2).2.2.1 ∈ gT := tb_0 152 rfl rfl
theorem fw_X7_25 : Cond.fieldLink RX7 25 (TX7 3).1 (TX7 3).2.1 (TX7 3).2.2.1 ∈ gT := tb_0 153 rfl rfl
theorem fw_X7_31 : Cond.fieldLink RX7 31 (TX7 4).1 (TX7 4).2.1 (TX7 4).2.2.1 ∈ gT := tb_0 154 rfl rfl
theorem fw_X7_39 : Cond.fieldLink RX7 39 (TX7 5).1 (TX7 5).2.1 (TX7 5).2.2.1 ∈ gT := tb_0 155 rfl rfl
theorem fw_X7_43 : Cond.fieldLink RX7 43 (TX7 6).1 (TX7 6).2.1 (TX7 6).2.2.1 ∈ gT := tb_0 156 rfl rfl
theorem fw_X7_47 : Cond.fieldLink RX7 47 (TX7 7).1 (TX7 7).2.1 (TX7 7).2.2.1 ∈ gT := tb_0 157 rfl rfl
theorem fw_X2_16 : Cond.fieldLink RX2 16 "HourEggs$Kinds" "KEEPS" "[I" ∈ gT := tb_0 230 rfl rfl
theorem fw_X3_9 : Cond.fieldLink RX3 9 (TX3 0).1 (TX3 0).2.1 (TX3 0).2.2.1 ∈ gT := tb_2 101 rfl rfl
theorem fw_X3_15 : Cond.fieldLink RX3 15 (TX3 1).1 (TX3 1).2.1 (TX3 1).2.2.1 ∈ gT := tb_2 102 rfl rfl
theorem fw_X3_45 : Cond.fieldLink RX3 45 (TX3 2).1 (TX3 2).2.1 (TX3 2).2.2.1 ∈ gT := tb_2 103 rfl rfl
theorem fw_X3_49 : Cond.fieldLink RX3 49 (TX3 3).1 (TX3 3).2.1 (TX3 3).2.2.1 ∈ gT := tb_2 104 rfl rfl
theorem fw_X3_124 : Cond.fieldLink RX3 124 (TX3 4).1 (TX3 4).2.1 (TX3 4).2.2.1 ∈ gT := tb_2 105 rfl rfl
theorem fw_X3_96 : Cond.fieldLink RX3 96 (TX3 5).1 (TX3 5).2.1 (TX3 5).2.2.1 ∈ gT := tb_2 106 rfl rfl
theorem fw_J0_38 : Cond.fieldLink RJ0 38 "java/lang/String" "COMPACT_STRINGS" "Z" ∈ gT := tb_2 163 rfl rfl
theorem fw_J0_1053 : Cond.fieldLink RJ0 1053 "jdk/internal/util/Preconditions" "SIOOBE_FORMATTER" "Ljava/util/function/BiFunction;" ∈ gT := tb_2 179 rfl rfl
theorem fw_J2_44 : Cond.fieldLink RJ2 44 "java/lang/StringUTF16" "$assertionsDisabled" "Z" ∈ gT := tb_2 197 rfl rfl
theorem fw_J2_59 : Cond.fieldLink RJ2 59 "java/lang/StringUTF16" "HI_BYTE_SHIFT" "I" ∈ gT := tb_2 199 rfl rfl
theorem fw_J2_63 : Cond.fieldLink RJ2 63 "java/lang/StringUTF16" "LO_BYTE_SHIFT" "I" ∈ gT := tb_2 201 rfl rfl
theorem fw_X2_26 : Cond.fieldLink RX2 26 "HourEggs$Kinds" "UPPER" "[I" ∈ gT := tb_3 14 rfl rfl
theorem fw_X8_9 : Cond.fieldLink RX8 9 (TX8 0).1 (TX8 0).2.1 (TX8 0).2.2.1 ∈ gT := tb_3 88 rfl rfl
theorem fw_X8_13 : Cond.fieldLink RX8 13 (TX8 1).1 (TX8 1).2.1 (TX8 1).2.2.1 ∈ gT := tb_3 89 rfl rfl
theorem fw_X8_16 : Cond.fieldLink RX8 16 (TX8 2).1 (TX8 2).2.1 (TX8 2).2.2.1 ∈ gT := tb_3 90 rfl rfl
theorem fw_X8_269 : Cond.fieldLink RX8 269 (TX8 3).1 (TX8 3).2.1 (TX8 3).2.2.1 ∈ gT := tb_3 91 rfl rfl
theorem fw_X8_19 : Cond.fieldLink RX8 19 (TX8 4).1 (TX8 4).2.1 (TX8 4).2.2.1 ∈ gT := tb_3 92 rfl rfl
theorem fw_X8_22 : Cond.fieldLink RX8 22 (TX8 5).1 (TX8 5).2.1 (TX8 5).2.2.1 ∈ gT := tb_3 93 rfl rfl
theorem fw_X8_26 : Cond.fieldLink RX8 26 (TX8 6).1 (TX8 6).2.1 (TX8 6).2.2.1 ∈ gT := tb_3 94 rfl rfl
theorem fw_X8_29 : Cond.fieldLink RX8 29 (TX8 7).1 (TX8 7).2.1 (TX8 7).2.2.1 ∈ gT := tb_3 95 rfl rfl
theorem fw_X8_205 : Cond.fieldLink RX8 205 (TX8 8).1 (TX8 8).2.1 (TX8 8).2.2.1 ∈ gT := tb_3 96 rfl rfl
theorem fw_X8_219 : Cond.fieldLink RX8 219 (TX8 9).1 (TX8 9).2.1 (TX8 9).2.2.1 ∈ gT := tb_3 97 rfl rfl
theorem fw_X8_212 : Cond.fieldLink RX8 212 (TX8 10).1 (TX8 10).2.1 (TX8 10).2.2.1 ∈ gT := tb_3 98 rfl rfl
theorem fw_X8_209 : Cond.fieldLink RX8 209 (TX8 11).1 (TX8 11).2.1 (TX8 11).2.2.1 ∈ gT := tb_3 99 rfl rfl
theorem fw_X8_215 : Cond.fieldLink RX8 215 (TX8 12).1 (TX8 12).2.1 (TX8 12).2.2.1 ∈ gT := tb_3 100 rfl rfl
theorem fw_X8_32 : Cond.fieldLink RX8 32 (TX8 13).1 (TX8 13).2.1 (TX8 13).2.2.1 ∈ gT := tb_3 101 rfl rfl
theorem fw_X8_36 : Cond.fieldLink RX8 36 (TX8 14).1 (TX8 14).2.1 (TX8 14).2.2.1 ∈ gT := tb_3 102 rfl rfl
theorem fw_X8_39 : Cond.fieldLink RX8 39 (TX8 15).1 (TX8 15).2.1 (TX8 15).2.2.1 ∈ gT := tb_3 103 rfl rfl
theorem fw_X8_42 : Cond.fieldLink RX8 42 (TX8 16).1 (TX8 16).2.1 (TX8 16).2.2.1 ∈ gT := tb_3 104 rfl rfl
theorem fw_X8_45 : Cond.fieldLink RX8 45 (TX8 17).1 (TX8 17).2.1 (TX8 17).2.2.1 ∈ gT := tb_3 105 rfl rfl
theorem fw_X8_48 : Cond.fieldLink RX8 48 (TX8 18).1 (TX8 18).2.1 (TX8 18).2.2.1 ∈ gT := tb_3 106 rfl rfl
theorem fw_X8_51 : Cond.fieldLink RX8 51 (TX8 19).1 (TX8 19).2.1 (TX8 19).2.2.1 ∈ gT := tb_3 107 rfl rfl
theorem fw_X8_54 : Cond.fieldLink RX8 54 (TX8 20).1 (TX8 20).2.1 (TX8 20).2.2.1 ∈ gT := tb_3 108 rfl rfl
theorem fw_J0_9 : Cond.fieldLink RJ0 9 "java/lang/String" "value" "[B" ∈ gT := tb_5 80 rfl rfl
theorem fw_J0_15 : Cond.fieldLink RJ0 15 "java/lang/String" "coder" "B" ∈ gT := tb_5 81 rfl rfl
theorem kw_X1_47 : Cond.constant RX1 47 (99999) ∈ gT := tb_0 69 rfl rfl
theorem kw_X7_277 : Cond.constant RX7 277 (-1000001) ∈ gT := tb_0 187 rfl rfl
theorem kw_X7_126 : Cond.constant RX7 126 (99999) ∈ gT := tb_1 67 rfl rfl
theorem kw_J6_265 : Cond.constant RJ6 265 (1431655765) ∈ gT := tb_1 90 rfl rfl
theorem kw_J6_266 : Cond.constant RJ6 266 (858993459) ∈ gT := tb_1 91 rfl rfl
theorem kw_J6_267 : Cond.constant RJ6 267 (252645135) ∈ gT := tb_1 92 rfl rfl
theorem kw_X1_134 : Cond.constant RX1 134 (1103515245) ∈ gT := tb_2 68 rfl rfl
theorem kw_X3_137 : Cond.constant RX3 137 (100000) ∈ gT := tb_2 135 rfl rfl
theorem kw_X3_87 : Cond.constant RX3 87 (99999) ∈ gT := tb_2 231 rfl rfl
theorem kw_X8_57 : Cond.constant RX8 57 (99999) ∈ gT := tb_3 87 rfl rfl
theorem kw_X8_58 : Cond.constant RX8 58 (-1000001) ∈ gT := tb_3 165 rfl rfl
theorem kw_X8_197 : Cond.constant RX8 197 (1103515245) ∈ gT := tb_4 203 rfl rfl
theorem kw_X7_223 : Cond.constantLong RX7 223 (3) ∈ gT := tb_2 73 rfl rfl
theorem kw_X7_225 : Cond.constantLong RX7 225 (4) ∈ gT := tb_2 74 rfl rfl
theorem kw_X8_201 : Cond.constantLong RX8 201 (3) ∈ gT := tb_4 208 rfl rfl
theorem kw_X8_203 : Cond.constantLong RX8 203 (4) ∈ gT := tb_4 209 rfl rfl
theorem kw_X8_225 : Cond.constantLong RX8 225 (9999999999999) ∈ gT := tb_4 233 rfl rfl
theorem kw_X8_227 : Cond.constantLong RX8 227 (27) ∈ gT := tb_4 234 rfl rfl
theorem kw_X8_229 : Cond.constantLong RX8 229 (96) ∈ gT := tb_4 235 rfl rfl
theorem kw_X8_234 : Cond.constantLong RX8 234 (99999) ∈ gT := tb_4 239 rfl rfl
theorem kw_X8_236 : Cond.constantLong RX8 236 (10) ∈ gT := tb_5 0 rfl rfl
theorem kw_X8_238 : Cond.constantLong RX8 238 (48) ∈ gT := tb_5 1 rfl rfl
theorem iw_L : Cond.initialized RL ∈ gT := tb_0 0 rfl rfl
theorem iw_X7 : Cond.initialized RX7 ∈ gT := tb_0 1 rfl rfl
theorem iw_X1 : Cond.initialized RX1 ∈ gT := tb_0 2 rfl rfl
theorem iw_X5 : Cond.initialized RX5 ∈ gT := tb_0 3 rfl rfl
theorem iw_J9 : Cond.initialized RJ9 ∈ gT := tb_0 4 rfl rfl
theorem iw_X0 : Cond.initialized RX0 ∈ gT := tb_0 5 rfl rfl
theorem iw_X4 : Cond.initialized RX4 ∈ gT := tb_0 6 rfl rfl
theorem iw_X6 : Cond.initialized RX6 ∈ gT := tb_0 7 rfl rfl
theorem iw_X8 : Cond.initialized RX8 ∈ gT := tb_0 8 rfl rfl
theorem iw_X2 : Cond.initialized RX2 ∈ gT := tb_0 9 rfl rfl
theorem iw_J6 : Cond.initialized RJ6 ∈ gT := tb_0 10 rfl rfl
theorem iw_X3 : Cond.initialized RX3 ∈ gT := tb_0 11 rfl rfl
theorem iw_J0 : Cond.initialized RJ0 ∈ gT := tb_0 12 rfl rfl
theorem iw_J1 : Cond.initialized RJ1 ∈ gT := tb_0 13 rfl rfl
theorem iw_J3 : Cond.initialized RJ3 ∈ gT := tb_0 14 rfl rfl
theorem iw_J2 : Cond.initialized RJ2 ∈ gT := tb_0 15 rfl rfl
theorem o_X7_init : okW yX7_init cX7_init 2 none 0 ∧ Cond.instanceMethod yX7_init ∈ gT := ⟨⟨iw_X7, tb_0 20 rfl rfl, by decide +kernel, by decide +kernel, by decide +kernel⟩, tb_0 19 rfl rfl⟩
theorem o_X1_init : okW yX1_init cX1_init 2 none 0 ∧ Cond.instanceMethod yX1_init ∈ gT := ⟨⟨iw_X1, tb_0 28 rfl rfl, by decide +kernel, by decide +kernel, by decide +kernel⟩, tb_0 27 rfl rfl⟩
theorem o_X5_init : okW yX5_init cX5_init 4 none 3 ∧ Cond.instanceMethod yX5_init ∈ gT := ⟨⟨iw_X5, tb_0 38 rfl rfl, by decide +kernel, by decide +kernel, by decide +kernel⟩, tb_0 37 rfl rfl⟩
theorem ow_Math_min : Cond.code Lib.Math.min.name Lib.Math.min.code 2 (some .int) ∈ gT := tb_0 42 rfl rfl
theorem sw_Math_min : Cond.static Lib.Math.min.name ∈ gT := tb_0 41 rfl rfl
theorem o_X5_put : okV yX5_put cX5_put 4 none 3 := ⟨⟨iw_X5, tb_0 60 rfl rfl, by decide +kernel, by decide +kernel, by decide +kernel⟩, tb_0 58 rfl rfl, tb_0 59 rfl rfl⟩
theorem o_X0_init : okW yX0_init cX0_init 1 none 0 ∧ Cond.instanceMethod yX0_init ∈ gT := ⟨⟨iw_X0, tb_0 105 rfl rfl, by decide +kernel, by decide +kernel, by decide +kernel⟩, tb_0 104 rfl rfl⟩
theorem o_X4_init : okW yX4_init cX4_init 1 none 0 ∧ Cond.instanceMethod yX4_init ∈ gT := ⟨⟨iw_X4, tb_0 122 rfl rfl, by decide +kernel, by decide +kernel, by decide +kernel⟩, tb_0 121 rfl rfl⟩
theorem o_X6_init : okW yX6_init cX6_init 1 none 0 ∧ Cond.instanceMethod yX6_init ∈ gT := ⟨⟨iw_X6, tb_0 140 rfl rfl, by decide +kernel, by decide +kernel, by decide +kernel⟩, tb_0 139 rfl rfl⟩
theorem o_X7_egg : okV yX7_egg cX7_egg 6 (some .int) 3 := ⟨⟨iw_X7, tb_0 178 rfl rfl, by decide +kernel, by decide +kernel, by decide +kernel⟩, tb_0 176 rfl rfl, tb_0 177 rfl rfl⟩
theorem o_X5_takes : okV yX5_takes cX5_takes 3 (some .boolean) 2 := ⟨⟨iw_X5, tb_0 182 rfl rfl, by decide +kernel, by decide +kernel, by decide +kernel⟩, tb_0 180 rfl rfl, tb_0 181 rfl rfl⟩
theorem o_X7_finding : okV yX7_finding cX7_finding 2 (some .int) 1 := ⟨⟨iw_X7, tb_0 186 rfl rfl, by decide +kernel, by decide +kernel, by decide +kernel⟩, tb_0 185 rfl rfl, gT_of (List.mem_append_left _ (List.mem_of_getElem? (i := 0) (by decide +kernel))) rfl⟩
theorem o_X1_emptyPlace : okV yX1_emptyPlace cX1_emptyPlace 2 (some .int) 0 := ⟨⟨iw_X1, tb_0 191 rfl rfl, by decide +kernel, by decide +kernel, by decide +kernel⟩, tb_0 189 rfl rfl, tb_0 190 rfl rfl⟩
theorem o_X1_hasEgg : okV yX1_hasEgg cX1_hasEgg 2 (some .boolean) 1 := ⟨⟨iw_X1, tb_0 195 rfl rfl, by decide +kernel, by decide +kernel, by decide +kernel⟩, tb_0 193 rfl rfl, tb_0 194 rfl rfl⟩
theorem o_X5_hasRow : okV yX5_hasRow cX5_hasRow 2 (some .boolean) 1 := ⟨⟨iw_X5, tb_0 199 rfl rfl, by decide +kernel, by decide +kernel, by decide +kernel⟩, tb_0 197 rfl rfl, tb_0 198 rfl rfl⟩
theorem o_X5_at : okV yX5_at cX5_at 3 (some .int) 2 := ⟨⟨iw_X5, tb_0 203 rfl rfl, by decide +kernel, by decide +kernel, by decide +kernel⟩, tb_0 201 rfl rfl, tb_0 202 rfl rfl⟩
theorem o_X1_layAt : okV yX1_layAt cX1_layAt 6 none 5 := ⟨⟨iw_X1, tb_0 207 rfl rfl, by decide +kernel, by decide +kernel, by decide +kernel⟩, tb_0 205 rfl rfl, tb_0 206 rfl rfl⟩
theorem o_X7_of : okV yX7_of cX7_of 3 (some .int) 2 := ⟨⟨iw_X7, tb_0 211 rfl rfl, by decide +kernel, by decide +kernel, by decide +kernel⟩, tb_0 209 rfl rfl, tb_0 210 rfl rfl⟩
theorem o_X7_within : okS yX7_within cX7_within 3 (some .boolean) 3 := ⟨⟨iw_X7, tb_0 215 rfl rfl, by decide +kernel, by decide +kernel, by decide +kernel⟩, tb_0 214 rfl rfl⟩
theorem o_X1_minutesOf : okV yX1_minutesOf cX1_minutesOf 2 (some .int) 1 := ⟨⟨iw_X1, tb_0 219 rfl rfl, by decide +kernel, by decide +kernel, by decide +kernel⟩, tb_0 217 rfl rfl, tb_0 218 rfl rfl⟩
theorem o_X1_minutesBehind : okV yX1_minutesBehind cX1_minutesBehind 5 (some .int) 4 := ⟨⟨iw_X1, tb_0 223 rfl rfl, by decide +kernel, by decide +kernel, by decide +kernel⟩, tb_0 221 rfl rfl, tb_0 222 rfl rfl⟩
theorem o_X2_stays : okS yX2_stays cX2_stays 3 (some .boolean) 3 := ⟨⟨iw_X2, tb_0 226 rfl rfl, by decide +kernel, by decide +kernel, by decide +kernel⟩, tb_0 225 rfl rfl⟩
theorem o_X2_keeps : okS yX2_keeps cX2_keeps 1 (some .int) 1 := ⟨⟨iw_X2, tb_0 229 rfl rfl, by decide +kernel, by decide +kernel, by decide +kernel⟩, tb_0 228 rfl rfl⟩
theorem o_X2_minutes : okS yX2_minutes cX2_minutes 7 (some .int) 4 := ⟨⟨iw_X2, tb_0 235 rfl rfl, by decide +kernel, by decide +kernel, by decide +kernel⟩, tb_0 234 rfl rfl⟩
theorem ow_Math_max : Cond.code Lib.Math.max.name Lib.Math.max.code 2 (some .int) ∈ gT := tb_0 238 rfl rfl
theorem sw_Math_max : Cond.static Lib.Math.max.name ∈ gT := tb_0 237 rfl rfl
theorem o_X7_change : okV yX7_change cX7_change 4 (some .int) 3 := ⟨⟨iw_X7, tb_1 5 rfl rfl, by decide +kernel, by decide +kernel, by decide +kernel⟩, tb_1 3 rfl rfl, tb_1 4 rfl rfl⟩
theorem o_X7_replace : okV yX7_replace cX7_replace 6 (some .int) 4 := ⟨⟨iw_X7, tb_1 9 rfl rfl, by decide +kernel, by decide +kernel, by decide +kernel⟩, tb_1 8 rfl rfl, gT_of (List.mem_append_left _ (List.mem_of_getElem? (i := 1) (by decide +kernel))) rfl⟩
theorem o_X7_hen : okV yX7_hen cX7_hen 4 (some .int) 3 := ⟨⟨iw_X7, tb_1 15 rfl rfl, by decide +kernel, by decide +kernel, by decide +kernel⟩, tb_1 13 rfl rfl, tb_1 14 rfl rfl⟩
theorem o_X7_work : okV yX7_work cX7_work 4 (some .int) 3 := ⟨⟨iw_X7, tb_1 19 rfl rfl, by decide +kernel, by decide +kernel, by decide +kernel⟩, tb_1 17 rfl rfl, tb_1 18 rfl rfl⟩
theorem o_X7_henOf : okV yX7_henOf cX7_henOf 3 (some .int) 2 := ⟨⟨iw_X7, tb_1 23 rfl rfl, by decide +kernel, by decide +kernel, by decide +kernel⟩, tb_1 21 rfl rfl, tb_1 22 rfl rfl⟩
theorem o_X5_hasColumn : okV yX5_hasColumn cX5_hasColumn 2 (some .boolean) 1 := ⟨⟨iw_X5, tb_1 27 rfl rfl, by decide +kernel, by decide +kernel, by decide +kernel⟩, tb_1 25 rfl rfl, tb_1 26 rfl rfl⟩
theorem o_X7_workOf : okV yX7_workOf cX7_workOf 3 (some .int) 2 := ⟨⟨iw_X7, tb_1 31 rfl rfl, by decide +kernel, by decide +kernel, by decide +kernel⟩, tb_1 29 rfl rfl, tb_1 30 rfl rfl⟩
theorem o_X1_isDone : okV yX1_isDone cX1_isDone 2 (some .boolean) 1 := ⟨⟨iw_X1, tb_1 35 rfl rfl, by decide +kernel, by decide +kernel, by decide +kernel⟩, tb_1 33 rfl rfl, tb_1 34 rfl rfl⟩
theorem o_X1_lacks : okV yX1_lacks cX1_lacks 2 (some .int) 1 := ⟨⟨iw_X1, tb_1 39 rfl rfl, by decide +kernel, by decide +kernel, by decide +kernel⟩, tb_1 37 rfl rfl, tb_1 38 rfl rfl⟩
theorem o_X7_spend : okV yX7_spend cX7_spend 3 (some .int) 2 := ⟨⟨iw_X7, tb_1 43 rfl rfl, by decide +kernel, by decide +kernel, by decide +kernel⟩, tb_1 41 rfl rfl, tb_1 42 rfl rfl⟩
theorem o_X1_isInTime : okV yX1_isInTime cX1_isInTime 2 (some .boolean) 1 := ⟨⟨iw_X1, tb_1 47 rfl rfl, by decide +kernel, by decide +kernel, by decide +kernel⟩, tb_1 45 rfl rfl, tb_1 46 rfl rfl⟩
theorem o_X1_spendOn : okV yX1_spendOn cX1_spendOn 5 (some .int) 2 := ⟨⟨iw_X1, tb_1 51 rfl rfl, by decide +kernel, by decide +kernel, by decide +kernel⟩, tb_1 49 rfl rfl, tb_1 50 rfl rfl⟩
theorem o_X1_empty : okV yX1_empty cX1_empty 2 none 1 := ⟨⟨iw_X1, tb_1 57 rfl rfl, by decide +kernel, by decide +kernel, by decide +kernel⟩, tb_1 55 rfl rfl, tb_1 56 rfl rfl⟩
theorem o_X7_broken : okV yX7_broken cX7_broken 3 (some .int) 1 := ⟨⟨iw_X7, tb_1 61 rfl rfl, by decide +kernel, by decide +kernel, by decide +kernel⟩, tb_1 59 rfl rfl, tb_1 60 rfl rfl⟩
theorem o_X7_go : okV yX7_go cX7_go 2 (some .int) 1 := ⟨⟨iw_X7, tb_1 66 rfl rfl, by decide +kernel, by decide +kernel, by decide +kernel⟩, tb_1 64 rfl rfl, tb_1 65 rfl rfl⟩
theorem o_X1_daysGoBy : okV yX1_daysGoBy cX1_daysGoBy 5 (some .int) 1 := ⟨⟨iw_X1, tb_1 71 rfl rfl, by decide +kernel, by decide +kernel, by decide +kernel⟩, tb_1 69 rfl rfl, tb_1 70 rfl rfl⟩
theorem o_X1_eggsAge : okV yX1_eggsAge cX1_eggsAge 4 (some .int) 0 := ⟨⟨iw_X1, tb_1 75 rfl rfl, by decide +kernel, by decide +kernel, by decide +kernel⟩, tb_1 74 rfl rfl, gT_of (List.mem_append_left _ (List.mem_of_getElem? (i := 2) (by decide +kernel))) rfl⟩
theorem o_X1_hensLay : okV yX1_hensLay cX1_hensLay 4 none 0 := ⟨⟨iw_X1, tb_1 80 rfl rfl, by decide +kernel, by decide +kernel, by decide +kernel⟩, tb_1 79 rfl rfl, gT_of (List.mem_append_left _ (List.mem_of_getElem? (i := 3) (by decide +kernel))) rfl⟩
theorem o_X1_places : okV yX1_places cX1_places 3 (some .int) 0 := ⟨⟨iw_X1, tb_1 86 rfl rfl, by decide +kernel, by decide +kernel, by decide +kernel⟩, tb_1 84 rfl rfl, tb_1 85 rfl rfl⟩
theorem o_J6_bitCount_0f7a4 : okS yJ6_bitCount_0f7a4 cJ6_bitCount_0f7a4 1 (some .int) 1 := ⟨⟨iw_J6, tb_1 89 rfl rfl, by decide +kernel, by decide +kernel, by decide +kernel⟩, tb_1 88 rfl rfl⟩
theorem o_X7_now : okV yX7_now cX7_now 2 (some .int) 1 := ⟨⟨iw_X7, tb_1 96 rfl rfl, by decide +kernel, by decide +kernel, by decide +kernel⟩, tb_1 94 rfl rfl, tb_1 95 rfl rfl⟩
theorem o_X1_allMinutes : okV yX1_allMinutes cX1_allMinutes 3 (some .int) 0 := ⟨⟨iw_X1, tb_1 100 rfl rfl, by decide +kernel, by decide +kernel, by decide +kernel⟩, tb_1 98 rfl rfl, tb_1 99 rfl rfl⟩
theorem o_X1_doneWorks : okV yX1_doneWorks cX1_doneWorks 3 (some .int) 0 := ⟨⟨iw_X1, tb_1 104 rfl rfl, by decide +kernel, by decide +kernel, by decide +kernel⟩, tb_1 102 rfl rfl, tb_1 103 rfl rfl⟩
theorem o_X7_ahead : okV yX7_ahead cX7_ahead 2 (some .int) 1 := ⟨⟨iw_X7, tb_1 109 rfl rfl, by decide +kernel, by decide +kernel, by decide +kernel⟩, tb_1 107 rfl rfl, tb_1 108 rfl rfl⟩
theorem o_X1_become : okV yX1_become cX1_become 2 none 1 := ⟨⟨iw_X1, tb_1 113 rfl rfl, by decide +kernel, by decide +kernel, by decide +kernel⟩, tb_1 111 rfl rfl, tb_1 112 rfl rfl⟩
theorem o_X5_become : okV yX5_become cX5_become 2 none 1 := ⟨⟨iw_X5, tb_1 117 rfl rfl, by decide +kernel, by decide +kernel, by decide +kernel⟩, tb_1 115 rfl rfl, tb_1 116 rfl rfl⟩
theorem o_X7_copyRow : okS yX7_copyRow cX7_copyRow 3 none 2 := ⟨⟨iw_X7, tb_1 120 rfl rfl, by decide +kernel, by decide +kernel, by decide +kernel⟩, tb_1 119 rfl rfl⟩
theorem o_X7_spoils : okV yX7_spoils cX7_spoils 2 (some .int) 1 := ⟨⟨iw_X7, tb_1 125 rfl rfl, by decide +kernel, by decide +kernel, by decide +kernel⟩, tb_1 123 rfl rfl, tb_1 124 rfl rfl⟩
theorem o_X7_ripe : okV yX7_ripe cX7_ripe 8 (some .int) 1 := ⟨⟨iw_X7, tb_1 129 rfl rfl, by decide +kernel, by decide +kernel, by decide +kernel⟩, tb_1 127 rfl rfl, tb_1 128 rfl rfl⟩
theorem o_X7_lasts : okV yX7_lasts cX7_lasts 5 (some .int) 1 := ⟨⟨iw_X7, tb_1 135 rfl rfl, by decide +kernel, by decide +kernel, by decide +kernel⟩, tb_1 133 rfl rfl, tb_1 134 rfl rfl⟩
theorem o_X7_when : okV yX7_when cX7_when 3 (some .int) 1 := ⟨⟨iw_X7, tb_1 139 rfl rfl, by decide +kernel, by decide +kernel, by decide +kernel⟩, tb_1 137 rfl rfl, tb_1 138 rfl rfl⟩
theorem o_X7_kindFor : okV yX7_kindFor cX7_kindFor 8 (some .int) 2 := ⟨⟨iw_X7, tb_1 143 rfl rfl, by decide +kernel, by decide +kernel, by decide +kernel⟩, tb_1 141 rfl rfl, tb_1 142 rfl rfl⟩
theorem o_X7_everyFor : okV yX7_everyFor cX7_everyFor 7 (some .int) 2 := ⟨⟨iw_X7, tb_1 147 rfl rfl, by decide +kernel, by decide +kernel, by decide +kernel⟩, tb_1 145 rfl rfl, tb_1 146 rfl rfl⟩
theorem o_X7_minutesWithEvery : okV yX7_minutesWithEvery cX7_minutesWithEvery 4 (some .int) 3 := ⟨⟨iw_X7, tb_1 151 rfl rfl, by decide +kernel, by decide +kernel, by decide +kernel⟩, tb_1 150 rfl rfl, gT_of (List.mem_append_left _ (List.mem_of_getElem? (i := 4) (by decide +kernel))) rfl⟩
theorem o_X7_fewest : okV yX7_fewest cX7_fewest 3 (some .int) 1 := ⟨⟨iw_X7, tb_1 155 rfl rfl, by decide +kernel, by decide +kernel, by decide +kernel⟩, tb_1 153 rfl rfl, tb_1 154 rfl rfl⟩
theorem o_X0_lookAt : okV yX0_lookAt cX0_lookAt 6 none 1 := ⟨⟨iw_X0, tb_1 159 rfl rfl, by decide +kernel, by decide +kernel, by decide +kernel⟩, tb_1 157 rfl rfl, tb_1 158 rfl rfl⟩
theorem o_X0_fewestFor : okV yX0_fewestFor cX0_fewestFor 5 (some .int) 2 := ⟨⟨iw_X0, tb_1 165 rfl rfl, by decide +kernel, by decide +kernel, by decide +kernel⟩, tb_1 163 rfl rfl, tb_1 164 rfl rfl⟩
theorem o_X0_does : okV yX0_does cX0_does 4 (some .boolean) 3 := ⟨⟨iw_X0, tb_1 169 rfl rfl, by decide +kernel, by decide +kernel, by decide +kernel⟩, tb_1 168 rfl rfl, gT_of (List.mem_append_left _ (List.mem_of_getElem? (i := 5) (by decide +kernel))) rfl⟩
theorem o_X0_isOfEggs : okV yX0_isOfEggs cX0_isOfEggs 2 (some .boolean) 1 := ⟨⟨iw_X0, tb_1 173 rfl rfl, by decide +kernel, by decide +kernel, by decide +kernel⟩, tb_1 172 rfl rfl, gT_of (List.mem_append_left _ (List.mem_of_getElem? (i := 6) (by decide +kernel))) rfl⟩
theorem o_X0_sumOf : okV yX0_sumOf cX0_sumOf 2 (some .int) 1 := ⟨⟨iw_X0, tb_1 178 rfl rfl, by decide +kernel, by decide +kernel, by decide +kernel⟩, tb_1 177 rfl rfl, gT_of (List.mem_append_left _ (List.mem_of_getElem? (i := 7) (by decide +kernel))) rfl⟩
theorem o_X7_thrifty : okV yX7_thrifty cX7_thrifty 3 (some .int) 1 := ⟨⟨iw_X7, tb_1 184 rfl rfl, by decide +kernel, by decide +kernel, by decide +kernel⟩, tb_1 182 rfl rfl, tb_1 183 rfl rfl⟩
theorem o_X0_leastFor : okV yX0_leastFor cX0_leastFor 5 (some .int) 2 := ⟨⟨iw_X0, tb_1 188 rfl rfl, by decide +kernel, by decide +kernel, by decide +kernel⟩, tb_1 186 rfl rfl, tb_1 187 rfl rfl⟩
theorem o_X7_best : okV yX7_best cX7_best 1 (some .int) 0 := ⟨⟨iw_X7, tb_1 192 rfl rfl, by decide +kernel, by decide +kernel, by decide +kernel⟩, tb_1 190 rfl rfl, tb_1 191 rfl rfl⟩
theorem o_X0_bestMark : okV yX0_bestMark cX0_bestMark 6 (some .int) 1 := ⟨⟨iw_X0, tb_1 196 rfl rfl, by decide +kernel, by decide +kernel, by decide +kernel⟩, tb_1 194 rfl rfl, tb_1 195 rfl rfl⟩
theorem o_X0_offer : okV yX0_offer cX0_offer 4 none 2 := ⟨⟨iw_X0, tb_1 202 rfl rfl, by decide +kernel, by decide +kernel, by decide +kernel⟩, tb_1 201 rfl rfl, gT_of (List.mem_append_left _ (List.mem_of_getElem? (i := 8) (by decide +kernel))) rfl⟩
theorem o_X0_bestWithOneMore : okV yX0_bestWithOneMore cX0_bestWithOneMore 6 (some .int) 3 := ⟨⟨iw_X0, tb_1 206 rfl rfl, by decide +kernel, by decide +kernel, by decide +kernel⟩, tb_1 205 rfl rfl, gT_of (List.mem_append_left _ (List.mem_of_getElem? (i := 9) (by decide +kernel))) rfl⟩
theorem o_X0_markOf : okV yX0_markOf cX0_markOf 2 (some .int) 1 := ⟨⟨iw_X0, tb_1 210 rfl rfl, by decide +kernel, by decide +kernel, by decide +kernel⟩, tb_1 209 rfl rfl, gT_of (List.mem_append_left _ (List.mem_of_getElem? (i := 10) (by decide +kernel))) rfl⟩
theorem o_X0_worthOf : okS yX0_worthOf cX0_worthOf 1 (some .int) 1 := ⟨⟨iw_X0, tb_1 214 rfl rfl, by decide +kernel, by decide +kernel, by decide +kernel⟩, tb_1 213 rfl rfl⟩
theorem o_X7_bestWorks : okV yX7_bestWorks cX7_bestWorks 1 (some .int) 0 := ⟨⟨iw_X7, tb_1 218 rfl rfl, by decide +kernel, by decide +kernel, by decide +kernel⟩, tb_1 216 rfl rfl, tb_1 217 rfl rfl⟩
theorem o_X0_worksOf : okS yX0_worksOf cX0_worksOf 1 (some .int) 1 := ⟨⟨iw_X0, tb_1 221 rfl rfl, by decide +kernel, by decide +kernel, by decide +kernel⟩, tb_1 220 rfl rfl⟩
theorem o_X7_soonest : okV yX7_soonest cX7_soonest 3 (some .int) 1 := ⟨⟨iw_X7, tb_1 226 rfl rfl, by decide +kernel, by decide +kernel, by decide +kernel⟩, tb_1 224 rfl rfl, tb_1 225 rfl rfl⟩
theorem o_X7_nest : okV yX7_nest cX7_nest 2 (some .int) 1 := ⟨⟨iw_X7, tb_1 231 rfl rfl, by decide +kernel, by decide +kernel, by decide +kernel⟩, tb_1 229 rfl rfl, tb_1 230 rfl rfl⟩
theorem o_X1_minutesIn : okV yX1_minutesIn cX1_minutesIn 4 (some .int) 1 := ⟨⟨iw_X1, tb_1 235 rfl rfl, by decide +kernel, by decide +kernel, by decide +kernel⟩, tb_1 233 rfl rfl, tb_1 234 rfl rfl⟩
theorem o_X7_guard : okV yX7_guard cX7_guard 3 (some .int) 0 := ⟨⟨iw_X7, tb_1 239 rfl rfl, by decide +kernel, by decide +kernel, by decide +kernel⟩, tb_1 237 rfl rfl, tb_1 238 rfl rfl⟩
theorem o_X7_halves : okV yX7_halves cX7_halves 1 (some .int) 0 := ⟨⟨iw_X7, tb_2 3 rfl rfl, by decide +kernel, by decide +kernel, by decide +kernel⟩, tb_2 1 rfl rfl, tb_2 2 rfl rfl⟩
theorem o_X0_nearestHalf : okV yX0_nearestHalf cX0_nearestHalf 3 (some .int) 0 := ⟨⟨iw_X0, tb_2 7 rfl rfl, by decide +kernel, by decide +kernel, by decide +kernel⟩, tb_2 5 rfl rfl, tb_2 6 rfl rfl⟩
theorem o_X0_apartWith : okV yX0_apartWith cX0_apartWith 2 (some .int) 1 := ⟨⟨iw_X0, tb_2 11 rfl rfl, by decide +kernel, by decide +kernel, by decide +kernel⟩, tb_2 9 rfl rfl, tb_2 10 rfl rfl⟩
theorem ow_Math_abs : Cond.code Lib.Math.abs.name Lib.Math.abs.code 1 (some .int) ∈ gT := tb_2 14 rfl rfl
theorem sw_Math_abs : Cond.static Lib.Math.abs.name ∈ gT := tb_2 13 rfl rfl
theorem o_X7_apart : okV yX7_apart cX7_apart 1 (some .int) 0 := ⟨⟨iw_X7, tb_2 18 rfl rfl, by decide +kernel, by decide +kernel, by decide +kernel⟩, tb_2 16 rfl rfl, tb_2 17 rfl rfl⟩
theorem o_X7_sets : okV yX7_sets cX7_sets 2 (some .int) 1 := ⟨⟨iw_X7, tb_2 23 rfl rfl, by decide +kernel, by decide +kernel, by decide +kernel⟩, tb_2 21 rfl rfl, tb_2 22 rfl rfl⟩
theorem o_X0_setsOf : okV yX0_setsOf cX0_setsOf 4 (some .int) 1 := ⟨⟨iw_X0, tb_2 27 rfl rfl, by decide +kernel, by decide +kernel, by decide +kernel⟩, tb_2 25 rfl rfl, tb_2 26 rfl rfl⟩
theorem o_X7_ages : okV yX7_ages cX7_ages 6 (some .int) 2 := ⟨⟨iw_X7, tb_2 31 rfl rfl, by decide +kernel, by decide +kernel, by decide +kernel⟩, tb_2 29 rfl rfl, tb_2 30 rfl rfl⟩
theorem o_X7_wrongTold : okV yX7_wrongTold cX7_wrongTold 4 (some .int) 2 := ⟨⟨iw_X7, tb_2 35 rfl rfl, by decide +kernel, by decide +kernel, by decide +kernel⟩, tb_2 34 rfl rfl, gT_of (List.mem_append_left _ (List.mem_of_getElem? (i := 11) (by decide +kernel))) rfl⟩
theorem o_X7_wrongSheet : okV yX7_wrongSheet cX7_wrongSheet 3 (some .int) 1 := ⟨⟨iw_X7, tb_2 39 rfl rfl, by decide +kernel, by decide +kernel, by decide +kernel⟩, tb_2 38 rfl rfl, gT_of (List.mem_append_left _ (List.mem_of_getElem? (i := 12) (by decide +kernel))) rfl⟩
theorem o_X7_sheetAt : okV yX7_sheetAt cX7_sheetAt 2 (some (.object "HourEggs$Sheet")) 1 := ⟨⟨iw_X7, tb_2 43 rfl rfl, by decide +kernel, by decide +kernel, by decide +kernel⟩, tb_2 42 rfl rfl, gT_of (List.mem_append_left _ (List.mem_of_getElem? (i := 13) (by decide +kernel))) rfl⟩
theorem o_X4_isMissing : okV yX4_isMissing cX4_isMissing 1 (some .boolean) 0 := ⟨⟨iw_X4, tb_2 47 rfl rfl, by decide +kernel, by decide +kernel, by decide +kernel⟩, tb_2 45 rfl rfl, tb_2 46 rfl rfl⟩
theorem o_X7_fits : okV yX7_fits cX7_fits 7 (some .boolean) 3 := ⟨⟨iw_X7, tb_2 51 rfl rfl, by decide +kernel, by decide +kernel, by decide +kernel⟩, tb_2 50 rfl rfl, gT_of (List.mem_append_left _ (List.mem_of_getElem? (i := 14) (by decide +kernel))) rfl⟩
theorem o_X4_at : okV yX4_at cX4_at 2 (some .int) 1 := ⟨⟨iw_X4, tb_2 55 rfl rfl, by decide +kernel, by decide +kernel, by decide +kernel⟩, tb_2 53 rfl rfl, tb_2 54 rfl rfl⟩
theorem o_X7_youngest : okV yX7_youngest cX7_youngest 5 (some .int) 2 := ⟨⟨iw_X7, tb_2 59 rfl rfl, by decide +kernel, by decide +kernel, by decide +kernel⟩, tb_2 57 rfl rfl, tb_2 58 rfl rfl⟩
theorem o_X7_foxes : okV yX7_foxes cX7_foxes 4 (some .int) 1 := ⟨⟨iw_X7, tb_2 63 rfl rfl, by decide +kernel, by decide +kernel, by decide +kernel⟩, tb_2 61 rfl rfl, tb_2 62 rfl rfl⟩
theorem o_X1_foxComes : okV yX1_foxComes cX1_foxComes 4 (some .int) 0 := ⟨⟨iw_X1, tb_2 67 rfl rfl, by decide +kernel, by decide +kernel, by decide +kernel⟩, tb_2 65 rfl rfl, tb_2 66 rfl rfl⟩
theorem o_X7_odds : okV yX7_odds cX7_odds 6 (some .long) 2 := ⟨⟨iw_X7, tb_2 72 rfl rfl, by decide +kernel, by decide +kernel, by decide +kernel⟩, tb_2 70 rfl rfl, tb_2 71 rfl rfl⟩
theorem o_X7_seed : okV yX7_seed cX7_seed 3 (some .int) 1 := ⟨⟨iw_X7, tb_2 78 rfl rfl, by decide +kernel, by decide +kernel, by decide +kernel⟩, tb_2 76 rfl rfl, tb_2 77 rfl rfl⟩
theorem o_X7_feed : okV yX7_feed cX7_feed 4 (some .int) 2 := ⟨⟨iw_X7, tb_2 82 rfl rfl, by decide +kernel, by decide +kernel, by decide +kernel⟩, tb_2 80 rfl rfl, tb_2 81 rfl rfl⟩
theorem o_X6_append : okV yX6_append cX6_append 2 none 1 := ⟨⟨iw_X6, tb_2 86 rfl rfl, by decide +kernel, by decide +kernel, by decide +kernel⟩, tb_2 84 rfl rfl, tb_2 85 rfl rfl⟩
theorem o_X7_wipe : okV yX7_wipe cX7_wipe 2 (some .int) 0 := ⟨⟨iw_X7, tb_2 90 rfl rfl, by decide +kernel, by decide +kernel, by decide +kernel⟩, tb_2 88 rfl rfl, tb_2 89 rfl rfl⟩
theorem o_X7_text : okV yX7_text cX7_text 2 (some .int) 0 := ⟨⟨iw_X7, tb_2 94 rfl rfl, by decide +kernel, by decide +kernel, by decide +kernel⟩, tb_2 92 rfl rfl, tb_2 93 rfl rfl⟩
theorem o_X3_init : okW yX3_init cX3_init 3 none 2 ∧ Cond.instanceMethod yX3_init ∈ gT := ⟨⟨iw_X3, tb_2 99 rfl rfl, by decide +kernel, by decide +kernel, by decide +kernel⟩, tb_2 98 rfl rfl⟩
theorem o_X3_readText : okV yX3_readText cX3_readText 4 (some .int) 0 := ⟨⟨iw_X3, tb_2 123 rfl rfl, by decide +kernel, by decide +kernel, by decide +kernel⟩, tb_2 121 rfl rfl, tb_2 122 rfl rfl⟩
theorem o_X3_advance : okV yX3_advance cX3_advance 1 none 0 := ⟨⟨iw_X3, tb_2 127 rfl rfl, by decide +kernel, by decide +kernel, by decide +kernel⟩, tb_2 126 rfl rfl, gT_of (List.mem_append_left _ (List.mem_of_getElem? (i := 15) (by decide +kernel))) rfl⟩
theorem o_X6_at : okV yX6_at cX6_at 2 (some .int) 1 := ⟨⟨iw_X6, tb_2 131 rfl rfl, by decide +kernel, by decide +kernel, by decide +kernel⟩, tb_2 129 rfl rfl, tb_2 130 rfl rfl⟩
theorem o_X3_sortOf : okS yX3_sortOf cX3_sortOf 1 (some .int) 1 := ⟨⟨iw_X3, tb_2 134 rfl rfl, by decide +kernel, by decide +kernel, by decide +kernel⟩, tb_2 133 rfl rfl⟩
theorem o_X3_kindAhead : okV yX3_kindAhead cX3_kindAhead 2 (some .int) 0 := ⟨⟨iw_X3, tb_2 140 rfl rfl, by decide +kernel, by decide +kernel, by decide +kernel⟩, tb_2 139 rfl rfl, gT_of (List.mem_append_left _ (List.mem_of_getElem? (i := 16) (by decide +kernel))) rfl⟩
theorem o_X3_wordOf : okS yX3_wordOf cX3_wordOf 1 (some (.object "java/lang/String")) 1 := ⟨⟨iw_X3, tb_2 143 rfl rfl, by decide +kernel, by decide +kernel, by decide +kernel⟩, tb_2 142 rfl rfl⟩
theorem o_X3_isAhead : okV yX3_isAhead cX3_isAhead 3 (some .boolean) 1 := ⟨⟨iw_X3, tb_2 154 rfl rfl, by decide +kernel, by decide +kernel, by decide +kernel⟩, tb_2 153 rfl rfl, gT_of (List.mem_append_left _ (List.mem_of_getElem? (i := 17) (by decide +kernel))) rfl⟩
theorem o_J0_length_8abf5 : okV yJ0_length_8abf5 cJ0_length_8abf5 1 (some .int) 0 := ⟨⟨iw_J0, tb_2 158 rfl rfl, by decide +kernel, by decide +kernel, by decide +kernel⟩, tb_2 156 rfl rfl, tb_2 157 rfl rfl⟩
theorem o_J0_coder_7d493 : okV yJ0_coder_7d493 cJ0_coder_7d493 1 (some .byte) 0 := ⟨⟨iw_J0, tb_2 162 rfl rfl, by decide +kernel, by decide +kernel, by decide +kernel⟩, tb_2 160 rfl rfl, tb_2 161 rfl rfl⟩
theorem o_J0_charAt_5068e : okV yJ0_charAt_5068e cJ0_charAt_5068e 2 (some .char) 1 := ⟨⟨iw_J0, tb_2 168 rfl rfl, by decide +kernel, by decide +kernel, by decide +kernel⟩, tb_2 166 rfl rfl, tb_2 167 rfl rfl⟩
theorem o_J0_isLatin1_aae02 : okV yJ0_isLatin1_aae02 cJ0_isLatin1_aae02 1 (some .boolean) 0 := ⟨⟨iw_J0, tb_2 172 rfl rfl, by decide +kernel, by decide +kernel, by decide +kernel⟩, tb_2 170 rfl rfl, tb_2 171 rfl rfl⟩
theorem o_J1_charAt_3b067 : okS yJ1_charAt_3b067 cJ1_charAt_3b067 2 (some .char) 2 := ⟨⟨iw_J1, tb_2 175 rfl rfl, by decide +kernel, by decide +kernel, by decide +kernel⟩, tb_2 174 rfl rfl⟩
theorem o_J0_checkIndex_df160 : okS yJ0_checkIndex_df160 cJ0_checkIndex_df160 2 none 2 := ⟨⟨iw_J0, tb_2 178 rfl rfl, by decide +kernel, by decide +kernel, by decide +kernel⟩, tb_2 177 rfl rfl⟩
theorem o_J3_checkIndex_8e157 : okS yJ3_checkIndex_8e157 cJ3_checkIndex_8e157 3 (some .int) 3 := ⟨⟨iw_J3, tb_2 183 rfl rfl, by decide +kernel, by decide +kernel, by decide +kernel⟩, tb_2 182 rfl rfl⟩
theorem o_J2_charAt_3b067 : okS yJ2_charAt_3b067 cJ2_charAt_3b067 2 (some .char) 2 := ⟨⟨iw_J2, tb_2 186 rfl rfl, by decide +kernel, by decide +kernel, by decide +kernel⟩, tb_2 185 rfl rfl⟩
theorem o_J2_checkIndex_2214a : okS yJ2_checkIndex_2214a cJ2_checkIndex_2214a 2 none 2 := ⟨⟨iw_J2, tb_2 189 rfl rfl, by decide +kernel, by decide +kernel, by decide +kernel⟩, tb_2 188 rfl rfl⟩
theorem o_J2_length_9d52b : okS yJ2_length_9d52b cJ2_length_9d52b 1 (some .int) 1 := ⟨⟨iw_J2, tb_2 192 rfl rfl, by decide +kernel, by decide +kernel, by decide +kernel⟩, tb_2 191 rfl rfl⟩
theorem o_J2_getChar_3b067 : okS yJ2_getChar_3b067 cJ2_getChar_3b067 2 (some .char) 2 := ⟨⟨iw_J2, tb_2 196 rfl rfl, by decide +kernel, by decide +kernel, by decide +kernel⟩, tb_2 195 rfl rfl⟩
theorem o_X3_readEgg : okV yX3_readEgg cX3_readEgg 6 (some .boolean) 1 := ⟨⟨iw_X3, tb_2 206 rfl rfl, by decide +kernel, by decide +kernel, by decide +kernel⟩, tb_2 205 rfl rfl, gT_of (List.mem_append_left _ (List.mem_of_getElem? (i := 18) (by decide +kernel))) rfl⟩
theorem o_X3_readNumber : okV yX3_readNumber cX3_readNumber 4 (some .int) 2 := ⟨⟨iw_X3, tb_2 211 rfl rfl, by decide +kernel, by decide +kernel, by decide +kernel⟩, tb_2 210 rfl rfl, gT_of (List.mem_append_left _ (List.mem_of_getElem? (i := 19) (by decide +kernel))) rfl⟩
theorem o_X3_readPerhaps : okV yX3_readPerhaps cX3_readPerhaps 4 (some .int) 3 := ⟨⟨iw_X3, tb_2 216 rfl rfl, by decide +kernel, by decide +kernel, by decide +kernel⟩, tb_2 215 rfl rfl, gT_of (List.mem_append_left _ (List.mem_of_getElem? (i := 20) (by decide +kernel))) rfl⟩
theorem o_X3_readHen : okV yX3_readHen cX3_readHen 3 (some .boolean) 0 := ⟨⟨iw_X3, tb_2 223 rfl rfl, by decide +kernel, by decide +kernel, by decide +kernel⟩, tb_2 222 rfl rfl, gT_of (List.mem_append_left _ (List.mem_of_getElem? (i := 21) (by decide +kernel))) rfl⟩
theorem o_X3_readWork : okV yX3_readWork cX3_readWork 5 (some .boolean) 0 := ⟨⟨iw_X3, tb_2 228 rfl rfl, by decide +kernel, by decide +kernel, by decide +kernel⟩, tb_2 227 rfl rfl, gT_of (List.mem_append_left _ (List.mem_of_getElem? (i := 22) (by decide +kernel))) rfl⟩
theorem o_X7_hold : okV yX7_hold cX7_hold 3 (some .int) 2 := ⟨⟨iw_X7, tb_2 238 rfl rfl, by decide +kernel, by decide +kernel, by decide +kernel⟩, tb_2 236 rfl rfl, tb_2 237 rfl rfl⟩
theorem o_X1_setSpot : okV yX1_setSpot cX1_setSpot 3 none 2 := ⟨⟨iw_X1, tb_3 2 rfl rfl, by decide +kernel, by decide +kernel, by decide +kernel⟩, tb_3 0 rfl rfl, tb_3 1 rfl rfl⟩
theorem o_X7_as : okV yX7_as cX7_as 4 (some .int) 2 := ⟨⟨iw_X7, tb_3 6 rfl rfl, by decide +kernel, by decide +kernel, by decide +kernel⟩, tb_3 4 rfl rfl, tb_3 5 rfl rfl⟩
theorem o_X1_spotAt : okV yX1_spotAt cX1_spotAt 2 (some .int) 1 := ⟨⟨iw_X1, tb_3 10 rfl rfl, by decide +kernel, by decide +kernel, by decide +kernel⟩, tb_3 8 rfl rfl, tb_3 9 rfl rfl⟩
theorem o_X2_isUnder : okS yX2_isUnder cX2_isUnder 4 (some .boolean) 2 := ⟨⟨iw_X2, tb_3 13 rfl rfl, by decide +kernel, by decide +kernel, by decide +kernel⟩, tb_3 12 rfl rfl⟩
theorem o_X7_sheet : okV yX7_sheet cX7_sheet 5 (some .int) 3 := ⟨⟨iw_X7, tb_3 19 rfl rfl, by decide +kernel, by decide +kernel, by decide +kernel⟩, tb_3 17 rfl rfl, tb_3 18 rfl rfl⟩
theorem o_X4_hasWidth : okS yX4_hasWidth cX4_hasWidth 1 (some .boolean) 1 := ⟨⟨iw_X4, tb_3 22 rfl rfl, by decide +kernel, by decide +kernel, by decide +kernel⟩, tb_3 21 rfl rfl⟩
theorem o_X4_makeNew : okV yX4_makeNew cX4_makeNew 4 none 2 := ⟨⟨iw_X4, tb_3 26 rfl rfl, by decide +kernel, by decide +kernel, by decide +kernel⟩, tb_3 24 rfl rfl, tb_3 25 rfl rfl⟩
theorem o_X7_write : okV yX7_write cX7_write 6 (some .int) 3 := ⟨⟨iw_X7, tb_3 32 rfl rfl, by decide +kernel, by decide +kernel, by decide +kernel⟩, tb_3 30 rfl rfl, tb_3 31 rfl rfl⟩
theorem o_X4_put : okV yX4_put cX4_put 3 none 2 := ⟨⟨iw_X4, tb_3 36 rfl rfl, by decide +kernel, by decide +kernel, by decide +kernel⟩, tb_3 34 rfl rfl, tb_3 35 rfl rfl⟩
theorem o_X7_copy : okV yX7_copy cX7_copy 8 (some .int) 5 := ⟨⟨iw_X7, tb_3 40 rfl rfl, by decide +kernel, by decide +kernel, by decide +kernel⟩, tb_3 38 rfl rfl, tb_3 39 rfl rfl⟩
theorem o_X4_hasNumbers : okV yX4_hasNumbers cX4_hasNumbers 3 (some .boolean) 2 := ⟨⟨iw_X4, tb_3 44 rfl rfl, by decide +kernel, by decide +kernel, by decide +kernel⟩, tb_3 42 rfl rfl, tb_3 43 rfl rfl⟩
theorem o_X7_copyNumbers : okS yX7_copyNumbers cX7_copyNumbers 8 none 5 := ⟨⟨iw_X7, tb_3 47 rfl rfl, by decide +kernel, by decide +kernel, by decide +kernel⟩, tb_3 46 rfl rfl⟩
theorem o_X7_load : okV yX7_load cX7_load 5 (some .int) 1 := ⟨⟨iw_X7, tb_3 51 rfl rfl, by decide +kernel, by decide +kernel, by decide +kernel⟩, tb_3 49 rfl rfl, tb_3 50 rfl rfl⟩
theorem o_X7_judge : okV yX7_judge cX7_judge 7 (some .int) 1 := ⟨⟨iw_X7, tb_3 55 rfl rfl, by decide +kernel, by decide +kernel, by decide +kernel⟩, tb_3 53 rfl rfl, tb_3 54 rfl rfl⟩
theorem o_X7_image : okV yX7_image cX7_image 1 (some .int) 0 := ⟨⟨iw_X7, tb_3 59 rfl rfl, by decide +kernel, by decide +kernel, by decide +kernel⟩, tb_3 57 rfl rfl, tb_3 58 rfl rfl⟩
theorem o_X7_undo : okV yX7_undo cX7_undo 1 (some .int) 0 := ⟨⟨iw_X7, tb_3 63 rfl rfl, by decide +kernel, by decide +kernel, by decide +kernel⟩, tb_3 61 rfl rfl, tb_3 62 rfl rfl⟩
theorem o_X7_tear : okV yX7_tear cX7_tear 2 (some .int) 0 := ⟨⟨iw_X7, tb_3 67 rfl rfl, by decide +kernel, by decide +kernel, by decide +kernel⟩, tb_3 65 rfl rfl, tb_3 66 rfl rfl⟩
theorem o_X7_count : okV yX7_count cX7_count 2 (some .int) 1 := ⟨⟨iw_X7, tb_3 71 rfl rfl, by decide +kernel, by decide +kernel, by decide +kernel⟩, tb_3 69 rfl rfl, tb_3 70 rfl rfl⟩
theorem o_X1_heldSpots : okV yX1_heldSpots cX1_heldSpots 3 (some .int) 0 := ⟨⟨iw_X1, tb_3 75 rfl rfl, by decide +kernel, by decide +kernel, by decide +kernel⟩, tb_3 73 rfl rfl, tb_3 74 rfl rfl⟩
theorem o_X7_status : okV yX7_status cX7_status 4 (some .int) 1 := ⟨⟨iw_X7, tb_3 80 rfl rfl, by decide +kernel, by decide +kernel, by decide +kernel⟩, tb_3 78 rfl rfl, tb_3 79 rfl rfl⟩
theorem o_X8_init : okW yX8_init cX8_init 2 none 0 ∧ Cond.instanceMethod yX8_init ∈ gT := ⟨⟨iw_X8, tb_3 85 rfl rfl, by decide +kernel, by decide +kernel, by decide +kernel⟩, tb_3 84 rfl rfl⟩
theorem o_X8_egg : okV yX8_egg cX8_egg 5 (some .int) 3 := ⟨⟨iw_X8, tb_3 157 rfl rfl, by decide +kernel, by decide +kernel, by decide +kernel⟩, tb_3 155 rfl rfl, tb_3 156 rfl rfl⟩
theorem o_X8_in1 : okS yX8_in1 cX8_in1 3 (some .boolean) 3 := ⟨⟨iw_X8, tb_3 160 rfl rfl, by decide +kernel, by decide +kernel, by decide +kernel⟩, tb_3 159 rfl rfl⟩
theorem o_X8_no : okV yX8_no cX8_no 2 (some .int) 1 := ⟨⟨iw_X8, tb_3 164 rfl rfl, by decide +kernel, by decide +kernel, by decide +kernel⟩, tb_3 163 rfl rfl, gT_of (List.mem_append_left _ (List.mem_of_getElem? (i := 23) (by decide +kernel))) rfl⟩
theorem o_X8_lays : okV yX8_lays cX8_lays 6 (some .int) 4 := ⟨⟨iw_X8, tb_3 169 rfl rfl, by decide +kernel, by decide +kernel, by decide +kernel⟩, tb_3 168 rfl rfl, gT_of (List.mem_append_left _ (List.mem_of_getElem? (i := 24) (by decide +kernel))) rfl⟩
theorem o_X8_free : okV yX8_free cX8_free 2 (some .int) 0 := ⟨⟨iw_X8, tb_3 173 rfl rfl, by decide +kernel, by decide +kernel, by decide +kernel⟩, tb_3 172 rfl rfl, gT_of (List.mem_append_left _ (List.mem_of_getElem? (i := 25) (by decide +kernel))) rfl⟩
theorem o_X8_isThere : okV yX8_isThere cX8_isThere 2 (some .boolean) 1 := ⟨⟨iw_X8, tb_3 177 rfl rfl, by decide +kernel, by decide +kernel, by decide +kernel⟩, tb_3 176 rfl rfl, gT_of (List.mem_append_left _ (List.mem_of_getElem? (i := 26) (by decide +kernel))) rfl⟩
theorem o_X8_get : okV yX8_get cX8_get 3 (some .int) 2 := ⟨⟨iw_X8, tb_3 181 rfl rfl, by decide +kernel, by decide +kernel, by decide +kernel⟩, tb_3 180 rfl rfl, gT_of (List.mem_append_left _ (List.mem_of_getElem? (i := 27) (by decide +kernel))) rfl⟩
theorem o_X8_puts : okV yX8_puts cX8_puts 4 none 3 := ⟨⟨iw_X8, tb_3 185 rfl rfl, by decide +kernel, by decide +kernel, by decide +kernel⟩, tb_3 184 rfl rfl, gT_of (List.mem_append_left _ (List.mem_of_getElem? (i := 28) (by decide +kernel))) rfl⟩
theorem o_X8_of : okV yX8_of cX8_of 3 (some .int) 2 := ⟨⟨iw_X8, tb_3 189 rfl rfl, by decide +kernel, by decide +kernel, by decide +kernel⟩, tb_3 187 rfl rfl, tb_3 188 rfl rfl⟩
theorem o_X8_isEgg : okV yX8_isEgg cX8_isEgg 2 (some .boolean) 1 := ⟨⟨iw_X8, tb_3 193 rfl rfl, by decide +kernel, by decide +kernel, by decide +kernel⟩, tb_3 192 rfl rfl, gT_of (List.mem_append_left _ (List.mem_of_getElem? (i := 29) (by decide +kernel))) rfl⟩
theorem o_X8_isPlace : okS yX8_isPlace cX8_isPlace 1 (some .boolean) 1 := ⟨⟨iw_X8, tb_3 196 rfl rfl, by decide +kernel, by decide +kernel, by decide +kernel⟩, tb_3 195 rfl rfl⟩
theorem o_X8_minutes : okV yX8_minutes cX8_minutes 2 (some .int) 1 := ⟨⟨iw_X8, tb_3 200 rfl rfl, by decide +kernel, by decide +kernel, by decide +kernel⟩, tb_3 199 rfl rfl, gT_of (List.mem_append_left _ (List.mem_of_getElem? (i := 30) (by decide +kernel))) rfl⟩
theorem o_X8_minutesBy : okS yX8_minutesBy cX8_minutesBy 7 (some .int) 4 := ⟨⟨iw_X8, tb_3 203 rfl rfl, by decide +kernel, by decide +kernel, by decide +kernel⟩, tb_3 202 rfl rfl⟩
theorem o_X8_greater : okS yX8_greater cX8_greater 2 (some .int) 2 := ⟨⟨iw_X8, tb_3 206 rfl rfl, by decide +kernel, by decide +kernel, by decide +kernel⟩, tb_3 205 rfl rfl⟩
theorem o_X8_less : okS yX8_less cX8_less 2 (some .int) 2 := ⟨⟨iw_X8, tb_3 209 rfl rfl, by decide +kernel, by decide +kernel, by decide +kernel⟩, tb_3 208 rfl rfl⟩
theorem o_X8_keepsBy : okS yX8_keepsBy cX8_keepsBy 1 (some .int) 1 := ⟨⟨iw_X8, tb_3 212 rfl rfl, by decide +kernel, by decide +kernel, by decide +kernel⟩, tb_3 211 rfl rfl⟩
theorem o_X8_change : okV yX8_change cX8_change 6 (some .int) 3 := ⟨⟨iw_X8, tb_3 216 rfl rfl, by decide +kernel, by decide +kernel, by decide +kernel⟩, tb_3 214 rfl rfl, tb_3 215 rfl rfl⟩
theorem o_X8_hen : okV yX8_hen cX8_hen 6 (some .int) 3 := ⟨⟨iw_X8, tb_3 220 rfl rfl, by decide +kernel, by decide +kernel, by decide +kernel⟩, tb_3 218 rfl rfl, tb_3 219 rfl rfl⟩
theorem o_X8_isHen : okS yX8_isHen cX8_isHen 1 (some .boolean) 1 := ⟨⟨iw_X8, tb_3 223 rfl rfl, by decide +kernel, by decide +kernel, by decide +kernel⟩, tb_3 222 rfl rfl⟩
theorem o_X8_hens : okV yX8_hens cX8_hens 3 (some .int) 2 := ⟨⟨iw_X8, tb_3 227 rfl rfl, by decide +kernel, by decide +kernel, by decide +kernel⟩, tb_3 226 rfl rfl, gT_of (List.mem_append_left _ (List.mem_of_getElem? (i := 31) (by decide +kernel))) rfl⟩
theorem o_X8_work : okV yX8_work cX8_work 6 (some .int) 3 := ⟨⟨iw_X8, tb_3 231 rfl rfl, by decide +kernel, by decide +kernel, by decide +kernel⟩, tb_3 229 rfl rfl, tb_3 230 rfl rfl⟩
theorem o_X8_isWork : okS yX8_isWork cX8_isWork 1 (some .boolean) 1 := ⟨⟨iw_X8, tb_3 234 rfl rfl, by decide +kernel, by decide +kernel, by decide +kernel⟩, tb_3 233 rfl rfl⟩
theorem o_X8_works : okV yX8_works cX8_works 3 (some .int) 2 := ⟨⟨iw_X8, tb_3 238 rfl rfl, by decide +kernel, by decide +kernel, by decide +kernel⟩, tb_3 237 rfl rfl, gT_of (List.mem_append_left _ (List.mem_of_getElem? (i := 32) (by decide +kernel))) rfl⟩
theorem o_X8_henOf : okV yX8_henOf cX8_henOf 3 (some .int) 2 := ⟨⟨iw_X8, tb_4 2 rfl rfl, by decide +kernel, by decide +kernel, by decide +kernel⟩, tb_4 0 rfl rfl, tb_4 1 rfl rfl⟩
theorem o_X8_workOf : okV yX8_workOf cX8_workOf 3 (some .int) 2 := ⟨⟨iw_X8, tb_4 6 rfl rfl, by decide +kernel, by decide +kernel, by decide +kernel⟩, tb_4 4 rfl rfl, tb_4 5 rfl rfl⟩
theorem o_X8_isDone : okV yX8_isDone cX8_isDone 2 (some .boolean) 1 := ⟨⟨iw_X8, tb_4 10 rfl rfl, by decide +kernel, by decide +kernel, by decide +kernel⟩, tb_4 9 rfl rfl, gT_of (List.mem_append_left _ (List.mem_of_getElem? (i := 33) (by decide +kernel))) rfl⟩
theorem o_X8_spend : okV yX8_spend cX8_spend 4 (some .int) 2 := ⟨⟨iw_X8, tb_4 14 rfl rfl, by decide +kernel, by decide +kernel, by decide +kernel⟩, tb_4 12 rfl rfl, tb_4 13 rfl rfl⟩
theorem o_X8_isOver : okV yX8_isOver cX8_isOver 2 (some .boolean) 1 := ⟨⟨iw_X8, tb_4 18 rfl rfl, by decide +kernel, by decide +kernel, by decide +kernel⟩, tb_4 17 rfl rfl, gT_of (List.mem_append_left _ (List.mem_of_getElem? (i := 34) (by decide +kernel))) rfl⟩
theorem o_X8_goesEgg : okV yX8_goesEgg cX8_goesEgg 2 none 1 := ⟨⟨iw_X8, tb_4 22 rfl rfl, by decide +kernel, by decide +kernel, by decide +kernel⟩, tb_4 21 rfl rfl, gT_of (List.mem_append_left _ (List.mem_of_getElem? (i := 35) (by decide +kernel))) rfl⟩
theorem o_X8_broken : okV yX8_broken cX8_broken 3 (some .int) 1 := ⟨⟨iw_X8, tb_4 26 rfl rfl, by decide +kernel, by decide +kernel, by decide +kernel⟩, tb_4 24 rfl rfl, tb_4 25 rfl rfl⟩
theorem o_X8_go : okV yX8_go cX8_go 4 (some .int) 1 := ⟨⟨iw_X8, tb_4 30 rfl rfl, by decide +kernel, by decide +kernel, by decide +kernel⟩, tb_4 28 rfl rfl, tb_4 29 rfl rfl⟩
theorem o_X8_day : okV yX8_day cX8_day 4 (some .int) 0 := ⟨⟨iw_X8, tb_4 34 rfl rfl, by decide +kernel, by decide +kernel, by decide +kernel⟩, tb_4 33 rfl rfl, gT_of (List.mem_append_left _ (List.mem_of_getElem? (i := 36) (by decide +kernel))) rfl⟩
theorem o_X8_eggs : okV yX8_eggs cX8_eggs 3 (some .int) 0 := ⟨⟨iw_X8, tb_4 38 rfl rfl, by decide +kernel, by decide +kernel, by decide +kernel⟩, tb_4 37 rfl rfl, gT_of (List.mem_append_left _ (List.mem_of_getElem? (i := 37) (by decide +kernel))) rfl⟩
theorem o_X8_bits : okS yX8_bits cX8_bits 3 (some .int) 1 := ⟨⟨iw_X8, tb_4 41 rfl rfl, by decide +kernel, by decide +kernel, by decide +kernel⟩, tb_4 40 rfl rfl⟩
theorem o_X8_now : okV yX8_now cX8_now 2 (some .int) 1 := ⟨⟨iw_X8, tb_4 45 rfl rfl, by decide +kernel, by decide +kernel, by decide +kernel⟩, tb_4 43 rfl rfl, tb_4 44 rfl rfl⟩
theorem o_X8_allMinutes : okV yX8_allMinutes cX8_allMinutes 1 (some .int) 0 := ⟨⟨iw_X8, tb_4 49 rfl rfl, by decide +kernel, by decide +kernel, by decide +kernel⟩, tb_4 48 rfl rfl, gT_of (List.mem_append_left _ (List.mem_of_getElem? (i := 38) (by decide +kernel))) rfl⟩
theorem o_X8_sumOf : okV yX8_sumOf cX8_sumOf 4 (some .int) 1 := ⟨⟨iw_X8, tb_4 53 rfl rfl, by decide +kernel, by decide +kernel, by decide +kernel⟩, tb_4 52 rfl rfl, gT_of (List.mem_append_left _ (List.mem_of_getElem? (i := 39) (by decide +kernel))) rfl⟩
theorem o_X8_isIn : okS yX8_isIn cX8_isIn 2 (some .boolean) 2 := ⟨⟨iw_X8, tb_4 56 rfl rfl, by decide +kernel, by decide +kernel, by decide +kernel⟩, tb_4 55 rfl rfl⟩
theorem o_X8_done : okV yX8_done cX8_done 3 (some .int) 0 := ⟨⟨iw_X8, tb_4 60 rfl rfl, by decide +kernel, by decide +kernel, by decide +kernel⟩, tb_4 59 rfl rfl, gT_of (List.mem_append_left _ (List.mem_of_getElem? (i := 40) (by decide +kernel))) rfl⟩
theorem o_X8_ahead : okV yX8_ahead cX8_ahead 4 (some .int) 1 := ⟨⟨iw_X8, tb_4 64 rfl rfl, by decide +kernel, by decide +kernel, by decide +kernel⟩, tb_4 62 rfl rfl, tb_4 63 rfl rfl⟩
theorem o_X8_setsAside : okV yX8_setsAside cX8_setsAside 2 none 0 := ⟨⟨iw_X8, tb_4 68 rfl rfl, by decide +kernel, by decide +kernel, by decide +kernel⟩, tb_4 67 rfl rfl, gT_of (List.mem_append_left _ (List.mem_of_getElem? (i := 41) (by decide +kernel))) rfl⟩
theorem o_X8_laysBack : okV yX8_laysBack cX8_laysBack 2 none 0 := ⟨⟨iw_X8, tb_4 72 rfl rfl, by decide +kernel, by decide +kernel, by decide +kernel⟩, tb_4 71 rfl rfl, gT_of (List.mem_append_left _ (List.mem_of_getElem? (i := 42) (by decide +kernel))) rfl⟩
theorem o_X8_spoils : okV yX8_spoils cX8_spoils 4 (some .int) 1 := ⟨⟨iw_X8, tb_4 76 rfl rfl, by decide +kernel, by decide +kernel, by decide +kernel⟩, tb_4 74 rfl rfl, tb_4 75 rfl rfl⟩
theorem o_X8_ripe : okV yX8_ripe cX8_ripe 6 (some .int) 1 := ⟨⟨iw_X8, tb_4 80 rfl rfl, by decide +kernel, by decide +kernel, by decide +kernel⟩, tb_4 78 rfl rfl, tb_4 79 rfl rfl⟩
theorem o_X8_then : okV yX8_then cX8_then 6 (some .int) 4 := ⟨⟨iw_X8, tb_4 84 rfl rfl, by decide +kernel, by decide +kernel, by decide +kernel⟩, tb_4 83 rfl rfl, gT_of (List.mem_append_left _ (List.mem_of_getElem? (i := 43) (by decide +kernel))) rfl⟩
theorem o_X8_lasts : okV yX8_lasts cX8_lasts 2 (some .int) 1 := ⟨⟨iw_X8, tb_4 88 rfl rfl, by decide +kernel, by decide +kernel, by decide +kernel⟩, tb_4 86 rfl rfl, tb_4 87 rfl rfl⟩
theorem o_X8_when : okV yX8_when cX8_when 4 (some .int) 1 := ⟨⟨iw_X8, tb_4 92 rfl rfl, by decide +kernel, by decide +kernel, by decide +kernel⟩, tb_4 90 rfl rfl, tb_4 91 rfl rfl⟩
theorem o_X8_kindFor : okV yX8_kindFor cX8_kindFor 5 (some .int) 2 := ⟨⟨iw_X8, tb_4 96 rfl rfl, by decide +kernel, by decide +kernel, by decide +kernel⟩, tb_4 94 rfl rfl, tb_4 95 rfl rfl⟩
theorem o_X8_everyFor : okV yX8_everyFor cX8_everyFor 8 (some .int) 2 := ⟨⟨iw_X8, tb_4 100 rfl rfl, by decide +kernel, by decide +kernel, by decide +kernel⟩, tb_4 98 rfl rfl, tb_4 99 rfl rfl⟩
theorem o_X8_fewest : okV yX8_fewest cX8_fewest 5 (some .int) 1 := ⟨⟨iw_X8, tb_4 104 rfl rfl, by decide +kernel, by decide +kernel, by decide +kernel⟩, tb_4 102 rfl rfl, tb_4 103 rfl rfl⟩
theorem o_X8_does : okV yX8_does cX8_does 3 (some .boolean) 2 := ⟨⟨iw_X8, tb_4 108 rfl rfl, by decide +kernel, by decide +kernel, by decide +kernel⟩, tb_4 107 rfl rfl, gT_of (List.mem_append_left _ (List.mem_of_getElem? (i := 44) (by decide +kernel))) rfl⟩
theorem o_X8_thrifty : okV yX8_thrifty cX8_thrifty 5 (some .int) 1 := ⟨⟨iw_X8, tb_4 112 rfl rfl, by decide +kernel, by decide +kernel, by decide +kernel⟩, tb_4 110 rfl rfl, tb_4 111 rfl rfl⟩
theorem o_X8_best : okV yX8_best cX8_best 1 (some .int) 0 := ⟨⟨iw_X8, tb_4 116 rfl rfl, by decide +kernel, by decide +kernel, by decide +kernel⟩, tb_4 114 rfl rfl, tb_4 115 rfl rfl⟩
theorem o_X8_bestSet : okV yX8_bestSet cX8_bestSet 5 (some .int) 0 := ⟨⟨iw_X8, tb_4 120 rfl rfl, by decide +kernel, by decide +kernel, by decide +kernel⟩, tb_4 119 rfl rfl, gT_of (List.mem_append_left _ (List.mem_of_getElem? (i := 45) (by decide +kernel))) rfl⟩
theorem o_X8_dealt : okV yX8_dealt cX8_dealt 7 (some .boolean) 2 := ⟨⟨iw_X8, tb_4 124 rfl rfl, by decide +kernel, by decide +kernel, by decide +kernel⟩, tb_4 123 rfl rfl, gT_of (List.mem_append_left _ (List.mem_of_getElem? (i := 46) (by decide +kernel))) rfl⟩
theorem o_X8_lowest : okS yX8_lowest cX8_lowest 2 (some .int) 1 := ⟨⟨iw_X8, tb_4 127 rfl rfl, by decide +kernel, by decide +kernel, by decide +kernel⟩, tb_4 126 rfl rfl⟩
theorem o_X8_worthOf : okV yX8_worthOf cX8_worthOf 4 (some .int) 1 := ⟨⟨iw_X8, tb_4 131 rfl rfl, by decide +kernel, by decide +kernel, by decide +kernel⟩, tb_4 130 rfl rfl, gT_of (List.mem_append_left _ (List.mem_of_getElem? (i := 47) (by decide +kernel))) rfl⟩
theorem o_X8_bestWorks : okV yX8_bestWorks cX8_bestWorks 1 (some .int) 0 := ⟨⟨iw_X8, tb_4 135 rfl rfl, by decide +kernel, by decide +kernel, by decide +kernel⟩, tb_4 133 rfl rfl, tb_4 134 rfl rfl⟩
theorem o_X8_soonest : okV yX8_soonest cX8_soonest 5 (some .int) 1 := ⟨⟨iw_X8, tb_4 139 rfl rfl, by decide +kernel, by decide +kernel, by decide +kernel⟩, tb_4 137 rfl rfl, tb_4 138 rfl rfl⟩
theorem o_X8_nest : okV yX8_nest cX8_nest 2 (some .int) 1 := ⟨⟨iw_X8, tb_4 143 rfl rfl, by decide +kernel, by decide +kernel, by decide +kernel⟩, tb_4 141 rfl rfl, tb_4 142 rfl rfl⟩
theorem o_X8_inNest : okV yX8_inNest cX8_inNest 4 (some .int) 1 := ⟨⟨iw_X8, tb_4 147 rfl rfl, by decide +kernel, by decide +kernel, by decide +kernel⟩, tb_4 146 rfl rfl, gT_of (List.mem_append_left _ (List.mem_of_getElem? (i := 48) (by decide +kernel))) rfl⟩
theorem o_X8_guard : okV yX8_guard cX8_guard 3 (some .int) 0 := ⟨⟨iw_X8, tb_4 151 rfl rfl, by decide +kernel, by decide +kernel, by decide +kernel⟩, tb_4 149 rfl rfl, tb_4 150 rfl rfl⟩
theorem o_X8_halves : okV yX8_halves cX8_halves 1 (some .int) 0 := ⟨⟨iw_X8, tb_4 155 rfl rfl, by decide +kernel, by decide +kernel, by decide +kernel⟩, tb_4 153 rfl rfl, tb_4 154 rfl rfl⟩
theorem o_X8_bestHalf : okV yX8_bestHalf cX8_bestHalf 3 (some .int) 0 := ⟨⟨iw_X8, tb_4 159 rfl rfl, by decide +kernel, by decide +kernel, by decide +kernel⟩, tb_4 158 rfl rfl, gT_of (List.mem_append_left _ (List.mem_of_getElem? (i := 49) (by decide +kernel))) rfl⟩
theorem o_X8_apartBy : okV yX8_apartBy cX8_apartBy 3 (some .int) 1 := ⟨⟨iw_X8, tb_4 163 rfl rfl, by decide +kernel, by decide +kernel, by decide +kernel⟩, tb_4 162 rfl rfl, gT_of (List.mem_append_left _ (List.mem_of_getElem? (i := 50) (by decide +kernel))) rfl⟩
theorem o_X8_apart : okV yX8_apart cX8_apart 1 (some .int) 0 := ⟨⟨iw_X8, tb_4 167 rfl rfl, by decide +kernel, by decide +kernel, by decide +kernel⟩, tb_4 165 rfl rfl, tb_4 166 rfl rfl⟩
theorem o_X8_sets : okV yX8_sets cX8_sets 4 (some .int) 1 := ⟨⟨iw_X8, tb_4 171 rfl rfl, by decide +kernel, by decide +kernel, by decide +kernel⟩, tb_4 169 rfl rfl, tb_4 170 rfl rfl⟩
theorem o_X8_ages : okV yX8_ages cX8_ages 6 (some .int) 2 := ⟨⟨iw_X8, tb_4 175 rfl rfl, by decide +kernel, by decide +kernel, by decide +kernel⟩, tb_4 173 rfl rfl, tb_4 174 rfl rfl⟩
theorem o_X8_wrongAges : okV yX8_wrongAges cX8_wrongAges 4 (some .int) 2 := ⟨⟨iw_X8, tb_4 179 rfl rfl, by decide +kernel, by decide +kernel, by decide +kernel⟩, tb_4 178 rfl rfl, gT_of (List.mem_append_left _ (List.mem_of_getElem? (i := 51) (by decide +kernel))) rfl⟩
theorem o_X8_wrongSheet : okV yX8_wrongSheet cX8_wrongSheet 2 (some .int) 1 := ⟨⟨iw_X8, tb_4 183 rfl rfl, by decide +kernel, by decide +kernel, by decide +kernel⟩, tb_4 182 rfl rfl, gT_of (List.mem_append_left _ (List.mem_of_getElem? (i := 52) (by decide +kernel))) rfl⟩
theorem o_X8_isSheet : okS yX8_isSheet cX8_isSheet 1 (some .boolean) 1 := ⟨⟨iw_X8, tb_4 186 rfl rfl, by decide +kernel, by decide +kernel, by decide +kernel⟩, tb_4 185 rfl rfl⟩
theorem o_X8_agesSo : okV yX8_agesSo cX8_agesSo 7 (some .boolean) 3 := ⟨⟨iw_X8, tb_4 190 rfl rfl, by decide +kernel, by decide +kernel, by decide +kernel⟩, tb_4 189 rfl rfl, gT_of (List.mem_append_left _ (List.mem_of_getElem? (i := 53) (by decide +kernel))) rfl⟩
theorem o_X8_youngest : okV yX8_youngest cX8_youngest 5 (some .int) 2 := ⟨⟨iw_X8, tb_4 194 rfl rfl, by decide +kernel, by decide +kernel, by decide +kernel⟩, tb_4 192 rfl rfl, tb_4 193 rfl rfl⟩
theorem o_X8_foxes : okV yX8_foxes cX8_foxes 7 (some .int) 1 := ⟨⟨iw_X8, tb_4 198 rfl rfl, by decide +kernel, by decide +kernel, by decide +kernel⟩, tb_4 196 rfl rfl, tb_4 197 rfl rfl⟩
theorem o_X8_draw : okV yX8_draw cX8_draw 1 (some .int) 0 := ⟨⟨iw_X8, tb_4 202 rfl rfl, by decide +kernel, by decide +kernel, by decide +kernel⟩, tb_4 201 rfl rfl, gT_of (List.mem_append_left _ (List.mem_of_getElem? (i := 54) (by decide +kernel))) rfl⟩
theorem o_X8_odds : okV yX8_odds cX8_odds 8 (some .long) 2 := ⟨⟨iw_X8, tb_4 207 rfl rfl, by decide +kernel, by decide +kernel, by decide +kernel⟩, tb_4 205 rfl rfl, tb_4 206 rfl rfl⟩
theorem o_X8_seed : okV yX8_seed cX8_seed 3 (some .int) 1 := ⟨⟨iw_X8, tb_4 213 rfl rfl, by decide +kernel, by decide +kernel, by decide +kernel⟩, tb_4 211 rfl rfl, tb_4 212 rfl rfl⟩
theorem o_X8_feed : okV yX8_feed cX8_feed 4 (some .int) 2 := ⟨⟨iw_X8, tb_4 217 rfl rfl, by decide +kernel, by decide +kernel, by decide +kernel⟩, tb_4 215 rfl rfl, tb_4 216 rfl rfl⟩
theorem o_X8_wipe : okV yX8_wipe cX8_wipe 2 (some .int) 0 := ⟨⟨iw_X8, tb_4 221 rfl rfl, by decide +kernel, by decide +kernel, by decide +kernel⟩, tb_4 219 rfl rfl, tb_4 220 rfl rfl⟩
theorem o_X8_text : okV yX8_text cX8_text 3 (some .int) 0 := ⟨⟨iw_X8, tb_4 225 rfl rfl, by decide +kernel, by decide +kernel, by decide +kernel⟩, tb_4 223 rfl rfl, tb_4 224 rfl rfl⟩
theorem o_X8_nextToken : okV yX8_nextToken cX8_nextToken 1 none 0 := ⟨⟨iw_X8, tb_4 229 rfl rfl, by decide +kernel, by decide +kernel, by decide +kernel⟩, tb_4 228 rfl rfl, gT_of (List.mem_append_left _ (List.mem_of_getElem? (i := 55) (by decide +kernel))) rfl⟩
theorem o_X8_isLetter : okS yX8_isLetter cX8_isLetter 1 (some .boolean) 1 := ⟨⟨iw_X8, tb_4 232 rfl rfl, by decide +kernel, by decide +kernel, by decide +kernel⟩, tb_4 231 rfl rfl⟩
theorem o_X8_isDigit : okS yX8_isDigit cX8_isDigit 1 (some .boolean) 1 := ⟨⟨iw_X8, tb_4 238 rfl rfl, by decide +kernel, by decide +kernel, by decide +kernel⟩, tb_4 237 rfl rfl⟩
theorem o_X8_readsItem : okV yX8_readsItem cX8_readsItem 3 (some .boolean) 0 := ⟨⟨iw_X8, tb_5 5 rfl rfl, by decide +kernel, by decide +kernel, by decide +kernel⟩, tb_5 4 rfl rfl, gT_of (List.mem_append_left _ (List.mem_of_getElem? (i := 56) (by decide +kernel))) rfl⟩
theorem o_X8_wordOf : okV yX8_wordOf cX8_wordOf 7 (some .int) 1 := ⟨⟨iw_X8, tb_5 9 rfl rfl, by decide +kernel, by decide +kernel, by decide +kernel⟩, tb_5 8 rfl rfl, gT_of (List.mem_append_left _ (List.mem_of_getElem? (i := 57) (by decide +kernel))) rfl⟩
theorem o_X8_readsEgg : okV yX8_readsEgg cX8_readsEgg 7 (some .boolean) 1 := ⟨⟨iw_X8, tb_5 13 rfl rfl, by decide +kernel, by decide +kernel, by decide +kernel⟩, tb_5 12 rfl rfl, gT_of (List.mem_append_left _ (List.mem_of_getElem? (i := 58) (by decide +kernel))) rfl⟩
theorem o_X8_takesNumber : okV yX8_takesNumber cX8_takesNumber 4 (some .int) 2 := ⟨⟨iw_X8, tb_5 17 rfl rfl, by decide +kernel, by decide +kernel, by decide +kernel⟩, tb_5 16 rfl rfl, gT_of (List.mem_append_left _ (List.mem_of_getElem? (i := 59) (by decide +kernel))) rfl⟩
theorem o_X8_readsHen : okV yX8_readsHen cX8_readsHen 3 (some .boolean) 0 := ⟨⟨iw_X8, tb_5 21 rfl rfl, by decide +kernel, by decide +kernel, by decide +kernel⟩, tb_5 20 rfl rfl, gT_of (List.mem_append_left _ (List.mem_of_getElem? (i := 60) (by decide +kernel))) rfl⟩
theorem o_X8_readsWork : okV yX8_readsWork cX8_readsWork 5 (some .boolean) 0 := ⟨⟨iw_X8, tb_5 25 rfl rfl, by decide +kernel, by decide +kernel, by decide +kernel⟩, tb_5 24 rfl rfl, gT_of (List.mem_append_left _ (List.mem_of_getElem? (i := 61) (by decide +kernel))) rfl⟩
theorem o_X8_hold : okV yX8_hold cX8_hold 3 (some .int) 2 := ⟨⟨iw_X8, tb_5 29 rfl rfl, by decide +kernel, by decide +kernel, by decide +kernel⟩, tb_5 27 rfl rfl, tb_5 28 rfl rfl⟩
theorem o_X8_isSpot : okS yX8_isSpot cX8_isSpot 1 (some .boolean) 1 := ⟨⟨iw_X8, tb_5 32 rfl rfl, by decide +kernel, by decide +kernel, by decide +kernel⟩, tb_5 31 rfl rfl⟩
theorem o_X8_as : okV yX8_as cX8_as 5 (some .int) 2 := ⟨⟨iw_X8, tb_5 36 rfl rfl, by decide +kernel, by decide +kernel, by decide +kernel⟩, tb_5 34 rfl rfl, tb_5 35 rfl rfl⟩
theorem o_X8_above : okS yX8_above cX8_above 1 (some .int) 1 := ⟨⟨iw_X8, tb_5 39 rfl rfl, by decide +kernel, by decide +kernel, by decide +kernel⟩, tb_5 38 rfl rfl⟩
theorem o_X8_sheet : okV yX8_sheet cX8_sheet 5 (some .int) 3 := ⟨⟨iw_X8, tb_5 43 rfl rfl, by decide +kernel, by decide +kernel, by decide +kernel⟩, tb_5 41 rfl rfl, tb_5 42 rfl rfl⟩
theorem o_X8_write : okV yX8_write cX8_write 5 (some .int) 3 := ⟨⟨iw_X8, tb_5 47 rfl rfl, by decide +kernel, by decide +kernel, by decide +kernel⟩, tb_5 45 rfl rfl, tb_5 46 rfl rfl⟩
theorem o_X8_copy : okV yX8_copy cX8_copy 7 (some .int) 5 := ⟨⟨iw_X8, tb_5 51 rfl rfl, by decide +kernel, by decide +kernel, by decide +kernel⟩, tb_5 49 rfl rfl, tb_5 50 rfl rfl⟩
theorem o_X8_load : okV yX8_load cX8_load 4 (some .int) 1 := ⟨⟨iw_X8, tb_5 55 rfl rfl, by decide +kernel, by decide +kernel, by decide +kernel⟩, tb_5 53 rfl rfl, tb_5 54 rfl rfl⟩
theorem o_X8_judge : okV yX8_judge cX8_judge 7 (some .int) 1 := ⟨⟨iw_X8, tb_5 59 rfl rfl, by decide +kernel, by decide +kernel, by decide +kernel⟩, tb_5 57 rfl rfl, tb_5 58 rfl rfl⟩
theorem o_X8_image : okV yX8_image cX8_image 2 (some .int) 0 := ⟨⟨iw_X8, tb_5 63 rfl rfl, by decide +kernel, by decide +kernel, by decide +kernel⟩, tb_5 61 rfl rfl, tb_5 62 rfl rfl⟩
theorem o_X8_undo : okV yX8_undo cX8_undo 2 (some .int) 0 := ⟨⟨iw_X8, tb_5 67 rfl rfl, by decide +kernel, by decide +kernel, by decide +kernel⟩, tb_5 65 rfl rfl, tb_5 66 rfl rfl⟩
theorem o_X8_tear : okV yX8_tear cX8_tear 2 (some .int) 0 := ⟨⟨iw_X8, tb_5 71 rfl rfl, by decide +kernel, by decide +kernel, by decide +kernel⟩, tb_5 69 rfl rfl, tb_5 70 rfl rfl⟩
theorem o_X8_count : okV yX8_count cX8_count 4 (some .int) 1 := ⟨⟨iw_X8, tb_5 75 rfl rfl, by decide +kernel, by decide +kernel, by decide +kernel⟩, tb_5 73 rfl rfl, tb_5 74 rfl rfl⟩
theorem o_X8_status : okV yX8_status cX8_status 4 (some .int) 1 := ⟨⟨iw_X8, tb_5 79 rfl rfl, by decide +kernel, by decide +kernel, by decide +kernel⟩, tb_5 77 rfl rfl, tb_5 78 rfl rfl⟩
theorem bk_X0 : Bk 0 RX0 TX0 tyX0 3 := ⟨rfl, gT_in hinX0 (by decide +kernel), tyX0_ok, nmX0⟩
theorem bk_X1 : Bk 1 RX1 TX1 tyX1 7 := ⟨rfl, gT_in hinX1 (by decide +kernel), tyX1_ok, nmX1⟩
theorem bk_X3 : Bk 2 RX3 TX3 tyX3 6 := ⟨rfl, gT_in hinX3 (by decide +kernel), tyX3_ok, nmX3⟩
theorem bk_X4 : Bk 3 RX4 TX4 tyX4 3 := ⟨rfl, gT_in hinX4 (by decide +kernel), tyX4_ok, nmX4⟩
theorem bk_X5 : Bk 4 RX5 TX5 tyX5 4 := ⟨rfl, gT_in hinX5 (by decide +kernel), tyX5_ok, nmX5⟩
theorem bk_X6 : Bk 5 RX6 TX6 tyX6 2 := ⟨rfl, gT_in hinX6 (by decide +kernel), tyX6_ok, nmX6⟩
theorem bk_X7 : Bk 6 RX7 TX7 tyX7 8 := ⟨rfl, gT_in hinX7 (by decide +kernel), tyX7_ok, nmX7⟩
theorem bk_X8 : Bk 7 RX8 TX8 tyX8 21 := ⟨rfl, gT_in hinX8 (by decide +kernel), tyX8_ok, nmX8⟩
theorem rcv_H {g : Gp} {h : Nat} (hh : isH h) : Rcv g h RX1 := ⟨1, _, _, rfl, rfl, ent_H0 hh⟩
theorem rcv_HT {g : Gp} {h : Nat} (hh : isH h) (j : Nat) (hj : j < 3) : Rcv g (h + (j + 1)) RX5 := ⟨4, _, _, rfl, rfl, ent_HT hh j hj⟩
theorem ent_0 {g : Gp} (f : Nat → Int32) : ent g 0 f = .inr (6, [.ref (gad g 1), .ref (gad g 9), .ref (gad g 17), .ref (gad g 25), .ref (gad g 28), .ref (gad g 37), .ref (gad g 39), .int (f 7)]) := rfl
theorem ent_25 {g : Gp} (f : Nat → Int32) : ent g 25 f = .inr (0, [.ref (gad g 26), .ref (gad g 27), .int (f 2)]) := rfl
theorem ent_26 {g : Gp} (f : Nat → Int32) : ent g 26 f = eI g 256 f := rfl
theorem ent_27 {g : Gp} (f : Nat → Int32) : ent g 27 f = eI g 256 f := rfl
theorem ent_SO {g : Gp} {j : Nat} (hj : j < 4) (f : Nat → Int32) : ent g (29 + 2 * j) f = .inr (3, [.ref (gad g (29 + 2 * j + 1)), .int (f 1), .int (f 2)]) := by
  rcases (show j = 0 ∨ j = 1 ∨ j = 2 ∨ j = 3 by omega) with rfl | rfl | rfl | rfl <;> rfl
theorem ent_SN {g : Gp} {j : Nat} (hj : j < 4) (f : Nat → Int32) : ent g (29 + 2 * j + 1) f = eI g 40 f := by
  rcases (show j = 0 ∨ j = 1 ∨ j = 2 ∨ j = 3 by omega) with rfl | rfl | rfl | rfl <;> rfl
theorem ent_37 {g : Gp} (f : Nat → Int32) : ent g 37 f = .inr (5, [.ref (gad g 38), .int (f 1)]) := rfl
theorem ent_38 {g : Gp} (f : Nat → Int32) : ent g 38 f = eI g 120 f := rfl
theorem ent_39 {g : Gp} (f : Nat → Int32) : ent g 39 f = eI g 7 f := rfl
theorem ent_40 {g : Gp} (f : Nat → Int32) : ent g 40 f = .inr (7, [.ref (gad g 41), .ref (gad g 42), .ref (gad g 43), .int (f 3), .ref (gad g 44), .ref (gad g 45), .ref (gad g 46), .ref (gad g 47), .int (f 8), .int (f 9), .int (f 10), .int (f 11), .long (mkL (f 12) (f 21)), .ref (gad g 48), .ref (gad g 49), .ref (gad g 50), .ref (gad g 51), .ref (gad g 52), .ref (gad g 53), .ref (gad g 54), .ref (gad g 55)]) := rfl
theorem ent_56 {g : Gp} (f : Nat → Int32) : ent g 56 f = .inr (2, [.ref (gad g 37), .ref (gad g 17), .int (f 2), .int (f 3), .int (f 4), .int (f 5)]) := rfl
theorem rcv_0 {g : Gp} : Rcv g 0 RX7 := ⟨6, _, _, rfl, rfl, ent_0⟩
theorem rcv_25 {g : Gp} : Rcv g 25 RX0 := ⟨0, _, _, rfl, rfl, ent_25⟩
theorem rcv_S {g : Gp} {j : Nat} (hj : j < 4) : Rcv g (29 + 2 * j) RX4 := ⟨3, _, _, rfl, rfl, ent_SO hj⟩
theorem rcv_37 {g : Gp} : Rcv g 37 RX6 := ⟨5, _, _, rfl, rfl, ent_37⟩
theorem rcv_40 {g : Gp} : Rcv g 40 RX8 := ⟨7, _, _, rfl, rfl, ent_40⟩
theorem rcv_56 {g : Gp} : Rcv g 56 RX3 := ⟨2, _, _, rfl, rfl, ent_56⟩
theorem ent_41 {g : Gp} (f : Nat → Int32) : ent g 41 f = eI g 93 f := rfl
theorem ent_42 {g : Gp} (f : Nat → Int32) : ent g 42 f = eI g 93 f := rfl
theorem ent_43 {g : Gp} (f : Nat → Int32) : ent g 43 f = eI g 93 f := rfl
theorem ent_44 {g : Gp} (f : Nat → Int32) : ent g 44 f = eI g 7 f := rfl
theorem ent_46 {g : Gp} (f : Nat → Int32) : ent g 46 f = eI g 256 f := rfl
theorem ent_47 {g : Gp} (f : Nat → Int32) : ent g 47 f = eI g 120 f := rfl
theorem ent_52 {g : Gp} (f : Nat → Int32) : ent g 52 f = eI g 4 f := rfl
theorem ent_53 {g : Gp} (f : Nat → Int32) : ent g 53 f = eI g 4 f := rfl
theorem ent_54 {g : Gp} (f : Nat → Int32) : ent g 54 f = eI g 160 f := rfl
theorem ent_55 {g : Gp} (f : Nat → Int32) : ent g 55 f = eI g 40 f := rfl
theorem ent_45 {g : Gp} (f : Nat → Int32) : ent g 45 f = eZ g 16384 f := rfl
theorem ent_48 {g : Gp} (f : Nat → Int32) : ent g 48 f = eC g 56 f := rfl
theorem ent_49 {g : Gp} (f : Nat → Int32) : ent g 49 f = eC g 16 f := rfl
theorem ent_50 {g : Gp} (f : Nat → Int32) : ent g 50 f = eC g 16 f := rfl
theorem ent_51 {g : Gp} (f : Nat → Int32) : ent g 51 f = eC g 16 f := rfl
