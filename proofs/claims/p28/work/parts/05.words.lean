/-! the words: those of the tables that stay true by themselves -/
def zWs : List Cond := lw_tbl.filter goodWord
theorem zWs_in : ∀ w ∈ zWs, w ∈ lw_tbl := fun w h => (List.mem_filter.mp h).1
theorem qt_1 : ∀ w ∈ tables_1_1, goodWord w = true → w ∈ zWs := fun _ h g => List.mem_filter.mpr ⟨List.mem_append_right _ (List.mem_append_left _ h), g⟩
theorem qt_2 : ∀ w ∈ tables_1_2, goodWord w = true → w ∈ zWs := fun _ h g => List.mem_filter.mpr ⟨List.mem_append_right _ (List.mem_append_right _ (List.mem_append_left _ h)), g⟩
theorem qt_3 : ∀ w ∈ tables_1_3, goodWord w = true → w ∈ zWs := fun _ h g => List.mem_filter.mpr ⟨List.mem_append_right _ (List.mem_append_right _ (List.mem_append_right _ (List.mem_append_left _ h))), g⟩
theorem qt_4 : ∀ w ∈ tables_1_4, goodWord w = true → w ∈ zWs := fun _ h g => List.mem_filter.mpr ⟨List.mem_append_right _ (List.mem_append_right _ (List.mem_append_right _ (List.mem_append_right _ (h)))), g⟩
theorem qp_1 : ∀ q ∈ lw_privs_1, Cond.selects q.1.cls q.1 q.1 ∈ zWs := fun q h => List.mem_filter.mpr ⟨List.mem_append_left _ (List.mem_map.mpr ⟨q, h, rfl⟩), rfl⟩
theorem q_0 : Cond.classLink RL 10 RX5 ∈ zWs := qt_1 _ (List.mem_of_getElem? (i := 16) rfl) rfl
theorem q_1 : Cond.instantiable RX5 4 ∈ zWs := qt_1 _ (List.mem_of_getElem? (i := 17) rfl) rfl
theorem q_2 : Cond.initialized RX5 ∈ zWs := qt_1 _ (List.mem_of_getElem? (i := 1) rfl) rfl
theorem q_3 : Cond.constant RL 31 (-5000002) ∈ zWs := qt_3 _ (List.mem_of_getElem? (i := 10) rfl) rfl
theorem q_4 : Cond.constant RL 186 (9999999) ∈ zWs := qt_4 _ (List.mem_of_getElem? (i := 45) rfl) rfl
theorem q_5 : Cond.methodLink RL 174 yX5_init ∈ zWs := qt_1 _ (List.mem_of_getElem? (i := 18) rfl) rfl
theorem q_6 : Cond.instanceMethod yX5_init ∈ zWs := qt_1 _ (List.mem_of_getElem? (i := 19) rfl) rfl
theorem q_7 : Cond.code yX5_init cX5_init 3 none ∈ zWs := qt_1 _ (List.mem_of_getElem? (i := 20) rfl) rfl
theorem q_8 : Cond.methodLink RX5 1 objectInit ∈ zWs := qt_1 _ (List.mem_of_getElem? (i := 21) rfl) rfl
theorem q_9 : Cond.instanceMethod objectInit ∈ zWs := qt_1 _ (List.mem_of_getElem? (i := 22) rfl) rfl
theorem q_10 : Cond.code objectInit ⟨#[0xb1]⟩ 1 none ∈ zWs := qt_1 _ (List.mem_of_getElem? (i := 23) rfl) rfl
theorem q_11 : Cond.classLink RX5 7 RX3 ∈ zWs := qt_1 _ (List.mem_of_getElem? (i := 24) rfl) rfl
theorem q_12 : Cond.instantiable RX3 8 ∈ zWs := qt_1 _ (List.mem_of_getElem? (i := 25) rfl) rfl
theorem q_13 : Cond.initialized RX3 ∈ zWs := qt_1 _ (List.mem_of_getElem? (i := 2) rfl) rfl
theorem q_14 : Cond.classLink RX5 10 RX1 ∈ zWs := qt_1 _ (List.mem_of_getElem? (i := 56) rfl) rfl
theorem q_15 : Cond.instantiable RX1 15 ∈ zWs := qt_1 _ (List.mem_of_getElem? (i := 57) rfl) rfl
theorem q_16 : Cond.initialized RX1 ∈ zWs := qt_1 _ (List.mem_of_getElem? (i := 3) rfl) rfl
theorem q_17 : Cond.fieldLink RX5 15 "StockLines" "game" "LStockLines$Game;" ∈ zWs := qt_1 _ (List.mem_of_getElem? (i := 209) rfl) rfl
theorem q_18 : Cond.fieldLink RX5 21 "StockLines" "saved" "[LStockLines$Game;" ∈ zWs := qt_1 _ (List.mem_of_getElem? (i := 210) rfl) rfl
theorem q_19 : Cond.fieldLink RX5 25 "StockLines" "savedCount" "I" ∈ zWs := qt_1 _ (List.mem_of_getElem? (i := 211) rfl) rfl
theorem q_20 : Cond.classLink RX5 29 RX4 ∈ zWs := qt_1 _ (List.mem_of_getElem? (i := 196) rfl) rfl
theorem q_21 : Cond.instantiable RX4 2 ∈ zWs := qt_1 _ (List.mem_of_getElem? (i := 197) rfl) rfl
theorem q_22 : Cond.initialized RX4 ∈ zWs := qt_1 _ (List.mem_of_getElem? (i := 7) rfl) rfl
theorem q_23 : Cond.fieldLink RX5 32 "StockLines" "script" "LStockLines$Script;" ∈ zWs := qt_1 _ (List.mem_of_getElem? (i := 212) rfl) rfl
theorem q_24 : Cond.instanceMethod yX3_init ∈ zWs := qt_1 _ (List.mem_of_getElem? (i := 27) rfl) rfl
theorem q_25 : Cond.code yX3_init cX3_init 1 none ∈ zWs := qt_1 _ (List.mem_of_getElem? (i := 28) rfl) rfl
theorem q_26 : Cond.methodLink RX3 3 objectInit ∈ zWs := qt_1 _ (List.mem_of_getElem? (i := 29) rfl) rfl
theorem q_27 : Cond.arrayClass .int ∈ zWs := qt_1 _ (List.mem_of_getElem? (i := 55) rfl) rfl
theorem q_28 : Cond.fieldLink RX3 9 "StockLines$RouteSearch" "distance" "[I" ∈ zWs := qt_1 _ (List.mem_of_getElem? (i := 30) rfl) rfl
theorem q_29 : Cond.fieldLink RX3 15 "StockLines$RouteSearch" "row" "[I" ∈ zWs := qt_1 _ (List.mem_of_getElem? (i := 31) rfl) rfl
theorem q_30 : Cond.fieldLink RX3 18 "StockLines$RouteSearch" "best" "[I" ∈ zWs := qt_1 _ (List.mem_of_getElem? (i := 32) rfl) rfl
theorem q_31 : Cond.methodLink RX5 12 yX1_init ∈ zWs := qt_1 _ (List.mem_of_getElem? (i := 58) rfl) rfl
theorem q_32 : Cond.instanceMethod yX1_init ∈ zWs := qt_1 _ (List.mem_of_getElem? (i := 59) rfl) rfl
theorem q_33 : Cond.code yX1_init cX1_init 3 none ∈ zWs := qt_1 _ (List.mem_of_getElem? (i := 60) rfl) rfl
theorem q_34 : Cond.methodLink RX1 3 objectInit ∈ zWs := qt_1 _ (List.mem_of_getElem? (i := 61) rfl) rfl
theorem q_35 : Cond.classLink RX1 9 RX2 ∈ zWs := qt_1 _ (List.mem_of_getElem? (i := 62) rfl) rfl
theorem q_36 : Cond.instantiable RX2 2 ∈ zWs := qt_1 _ (List.mem_of_getElem? (i := 63) rfl) rfl
theorem q_37 : Cond.initialized RX2 ∈ zWs := qt_1 _ (List.mem_of_getElem? (i := 4) rfl) rfl
theorem q_38 : Cond.fieldLink RX1 12 "StockLines$Game" "land" "LStockLines$Land;" ∈ zWs := qt_1 _ (List.mem_of_getElem? (i := 143) rfl) rfl
theorem q_39 : Cond.classLink RX1 18 RX0 ∈ zWs := qt_1 _ (List.mem_of_getElem? (i := 82) rfl) rfl
theorem q_40 : Cond.fieldLink RX1 20 "StockLines$Game" "companies" "[LStockLines$Company;" ∈ zWs := qt_1 _ (List.mem_of_getElem? (i := 145) rfl) rfl
theorem q_41 : Cond.fieldLink RX1 24 "StockLines$Game" "cash" "[I" ∈ zWs := qt_1 _ (List.mem_of_getElem? (i := 147) rfl) rfl
theorem q_42 : Cond.fieldLink RX1 28 "StockLines$Game" "order" "[I" ∈ zWs := qt_1 _ (List.mem_of_getElem? (i := 149) rfl) rfl
theorem q_43 : Cond.fieldLink RX1 31 "StockLines$Game" "search" "LStockLines$RouteSearch;" ∈ zWs := qt_1 _ (List.mem_of_getElem? (i := 142) rfl) rfl
theorem q_44 : Cond.instantiable RX0 8 ∈ zWs := qt_1 _ (List.mem_of_getElem? (i := 84) rfl) rfl
theorem q_45 : Cond.initialized RX0 ∈ zWs := qt_1 _ (List.mem_of_getElem? (i := 5) rfl) rfl
theorem q_46 : Cond.methodLink RX1 11 yX2_init ∈ zWs := qt_1 _ (List.mem_of_getElem? (i := 64) rfl) rfl
theorem q_47 : Cond.instanceMethod yX2_init ∈ zWs := qt_1 _ (List.mem_of_getElem? (i := 65) rfl) rfl
theorem q_48 : Cond.code yX2_init cX2_init 2 none ∈ zWs := qt_1 _ (List.mem_of_getElem? (i := 66) rfl) rfl
theorem q_49 : Cond.methodLink RX2 3 objectInit ∈ zWs := qt_1 _ (List.mem_of_getElem? (i := 67) rfl) rfl
theorem q_50 : Cond.fieldLink RX2 9 "StockLines$Land" "worth" "[I" ∈ zWs := qt_1 _ (List.mem_of_getElem? (i := 70) rfl) rfl
theorem q_51 : Cond.classLink RX2 15 "[[I" ∈ zWs := qt_1 _ (List.mem_of_getElem? (i := 68) rfl) rfl
theorem q_52 : Cond.fieldLink RX2 17 "StockLines$Land" "level" "[[I" ∈ zWs := qt_1 _ (List.mem_of_getElem? (i := 73) rfl) rfl
theorem q_53 : Cond.instanceMethod yX0_init ∈ zWs := qt_1 _ (List.mem_of_getElem? (i := 86) rfl) rfl
theorem q_54 : Cond.code yX0_init cX0_init 1 none ∈ zWs := qt_1 _ (List.mem_of_getElem? (i := 87) rfl) rfl
theorem q_55 : Cond.methodLink RX0 3 objectInit ∈ zWs := qt_1 _ (List.mem_of_getElem? (i := 88) rfl) rfl
theorem q_56 : Cond.fieldLink RX0 9 "StockLines$Company" "held" "[I" ∈ zWs := qt_1 _ (List.mem_of_getElem? (i := 89) rfl) rfl
theorem q_57 : Cond.methodLink RX1 36 yX1_reset ∈ zWs := qt_1 _ (List.mem_of_getElem? (i := 125) rfl) rfl
theorem q_58 : Cond.instanceMethod yX1_reset ∈ zWs := qt_1 _ (List.mem_of_getElem? (i := 126) rfl) rfl
theorem q_59 : Cond.selects RX1 yX1_reset yX1_reset ∈ zWs := qt_1 _ (List.mem_of_getElem? (i := 127) rfl) rfl
theorem q_60 : Cond.code yX1_reset cX1_reset 3 none ∈ zWs := qt_1 _ (List.mem_of_getElem? (i := 128) rfl) rfl
theorem q_61 : Cond.fieldLink RX1 52 "StockLines$Game" "orderLength" "I" ∈ zWs := qt_1 _ (List.mem_of_getElem? (i := 150) rfl) rfl
theorem q_62 : Cond.fieldLink RX1 56 "StockLines$Game" "orderPlace" "I" ∈ zWs := qt_1 _ (List.mem_of_getElem? (i := 151) rfl) rfl
theorem q_63 : Cond.fieldLink RX1 59 "StockLines$Game" "extended" "Z" ∈ zWs := qt_1 _ (List.mem_of_getElem? (i := 152) rfl) rfl
theorem q_64 : Cond.fieldLink RX1 63 "StockLines$Game" "players" "I" ∈ zWs := qt_1 _ (List.mem_of_getElem? (i := 153) rfl) rfl
theorem q_65 : Cond.fieldLink RX1 66 "StockLines$Game" "turn" "I" ∈ zWs := qt_1 _ (List.mem_of_getElem? (i := 155) rfl) rfl
theorem q_66 : Cond.fieldLink RX1 69 "StockLines$Game" "passed" "I" ∈ zWs := qt_1 _ (List.mem_of_getElem? (i := 157) rfl) rfl
theorem q_67 : Cond.fieldLink RX1 72 "StockLines$Game" "operating" "Z" ∈ zWs := qt_1 _ (List.mem_of_getElem? (i := 158) rfl) rfl
theorem q_68 : Cond.fieldLink RX1 75 "StockLines$Game" "phasesOver" "I" ∈ zWs := qt_1 _ (List.mem_of_getElem? (i := 161) rfl) rfl
theorem q_69 : Cond.fieldLink RX1 78 "StockLines$Game" "bank" "I" ∈ zWs := qt_1 _ (List.mem_of_getElem? (i := 162) rfl) rfl
theorem q_70 : Cond.fieldLink RX1 81 "StockLines$Game" "closed" "I" ∈ zWs := qt_1 _ (List.mem_of_getElem? (i := 163) rfl) rfl
theorem q_71 : Cond.methodLink RX1 40 yX2_clearTracks ∈ zWs := qt_1 _ (List.mem_of_getElem? (i := 129) rfl) rfl
theorem q_72 : Cond.instanceMethod yX2_clearTracks ∈ zWs := qt_1 _ (List.mem_of_getElem? (i := 130) rfl) rfl
theorem q_73 : Cond.selects RX2 yX2_clearTracks yX2_clearTracks ∈ zWs := qt_1 _ (List.mem_of_getElem? (i := 131) rfl) rfl
theorem q_74 : Cond.code yX2_clearTracks cX2_clearTracks 2 none ∈ zWs := qt_1 _ (List.mem_of_getElem? (i := 132) rfl) rfl
theorem q_75 : Cond.methodLink RX2 20 yJ7_fill_53178 ∈ zWs := qt_1 _ (List.mem_of_getElem? (i := 133) rfl) rfl
theorem q_76 : Cond.static yJ7_fill_53178 ∈ zWs := qt_1 _ (List.mem_of_getElem? (i := 134) rfl) rfl
theorem q_77 : Cond.initialized RJ7 ∈ zWs := qt_1 _ (List.mem_of_getElem? (i := 6) rfl) rfl
theorem q_78 : Cond.code yJ7_fill_53178 cJ7_fill_53178 4 none ∈ zWs := qt_1 _ (List.mem_of_getElem? (i := 135) rfl) rfl
theorem q_79 : Cond.methodLink RX1 43 yX0_close ∈ zWs := qt_1 _ (List.mem_of_getElem? (i := 136) rfl) rfl
theorem q_80 : Cond.instanceMethod yX0_close ∈ zWs := qt_1 _ (List.mem_of_getElem? (i := 137) rfl) rfl
theorem q_81 : Cond.selects RX0 yX0_close yX0_close ∈ zWs := qt_1 _ (List.mem_of_getElem? (i := 138) rfl) rfl
theorem q_82 : Cond.code yX0_close cX0_close 1 none ∈ zWs := qt_1 _ (List.mem_of_getElem? (i := 139) rfl) rfl
theorem q_83 : Cond.fieldLink RX0 23 "StockLines$Company" "open" "Z" ∈ zWs := qt_1 _ (List.mem_of_getElem? (i := 92) rfl) rfl
theorem q_84 : Cond.fieldLink RX0 27 "StockLines$Company" "home" "I" ∈ zWs := qt_1 _ (List.mem_of_getElem? (i := 95) rfl) rfl
theorem q_85 : Cond.fieldLink RX0 39 "StockLines$Company" "cash" "I" ∈ zWs := qt_1 _ (List.mem_of_getElem? (i := 98) rfl) rfl
theorem q_86 : Cond.fieldLink RX0 15 "StockLines$Company" "step" "I" ∈ zWs := qt_1 _ (List.mem_of_getElem? (i := 100) rfl) rfl
theorem q_87 : Cond.fieldLink RX0 30 "StockLines$Company" "stops" "I" ∈ zWs := qt_1 _ (List.mem_of_getElem? (i := 102) rfl) rfl
theorem q_88 : Cond.fieldLink RX0 42 "StockLines$Company" "president" "I" ∈ zWs := qt_1 _ (List.mem_of_getElem? (i := 104) rfl) rfl
theorem q_89 : Cond.fieldLink RX0 45 "StockLines$Company" "latest" "I" ∈ zWs := qt_1 _ (List.mem_of_getElem? (i := 106) rfl) rfl
theorem q_90 : Cond.methodLink RX0 33 yJ7_fill_53178 ∈ zWs := qt_1 _ (List.mem_of_getElem? (i := 140) rfl) rfl
theorem q_91 : Cond.methodLink RX1 46 yJ7_fill_53178 ∈ zWs := qt_1 _ (List.mem_of_getElem? (i := 141) rfl) rfl
theorem q_92 : Cond.instanceMethod yX4_init ∈ zWs := qt_1 _ (List.mem_of_getElem? (i := 199) rfl) rfl
theorem q_93 : Cond.code yX4_init cX4_init 1 none ∈ zWs := qt_1 _ (List.mem_of_getElem? (i := 200) rfl) rfl
theorem q_94 : Cond.methodLink RX4 3 objectInit ∈ zWs := qt_1 _ (List.mem_of_getElem? (i := 201) rfl) rfl
theorem q_95 : Cond.fieldLink RX4 9 "StockLines$Script" "signs" "[I" ∈ zWs := qt_1 _ (List.mem_of_getElem? (i := 202) rfl) rfl
theorem q_96 : Cond.methodLink RL 167 yL_undoes ∈ zWs := qt_3 _ (List.mem_of_getElem? (i := 95) rfl) rfl
theorem q_97 : Cond.static yL_undoes ∈ zWs := qt_3 _ (List.mem_of_getElem? (i := 96) rfl) rfl
theorem q_98 : Cond.initialized RL ∈ zWs := qt_1 _ (List.mem_of_getElem? (i := 0) rfl) rfl
theorem q_99 : Cond.codeWith yL_undoes cL_undoes 2 (some .int) [(0, 4, 5, 29)] ∈ zWs := qt_3 _ (List.mem_of_getElem? (i := 97) rfl) rfl
theorem q_100 : Cond.classLink RL 29 "java/lang/IllegalStateException" ∈ zWs := qt_2 _ (List.mem_of_getElem? (i := 210) rfl) rfl
theorem q_101 : Cond.methodLink RL 79 yX5_undo ∈ zWs := qt_3 _ (List.mem_of_getElem? (i := 98) rfl) rfl
theorem q_102 : Cond.instanceMethod yX5_undo ∈ zWs := qt_3 _ (List.mem_of_getElem? (i := 99) rfl) rfl
theorem q_103 : Cond.selects RX5 yX5_undo yX5_undo ∈ zWs := qt_3 _ (List.mem_of_getElem? (i := 100) rfl) rfl
theorem q_104 : Cond.code yX5_undo cX5_undo 1 (some .int) ∈ zWs := qt_3 _ (List.mem_of_getElem? (i := 101) rfl) rfl
theorem q_105 : Cond.classLink RX5 73 "java/lang/IllegalStateException" ∈ zWs := qt_2 _ (List.mem_of_getElem? (i := 215) rfl) rfl
theorem q_106 : Cond.initialized "java/lang/IllegalStateException" ∈ zWs := qt_1 _ (List.mem_of_getElem? (i := 11) rfl) rfl
theorem q_107 : Cond.methodLink RX5 195 yX1_copyFrom ∈ zWs := qt_2 _ (List.mem_of_getElem? (i := 190) rfl) rfl
theorem q_108 : Cond.instanceMethod yX1_copyFrom ∈ zWs := qt_2 _ (List.mem_of_getElem? (i := 191) rfl) rfl
theorem q_109 : Cond.selects RX1 yX1_copyFrom yX1_copyFrom ∈ zWs := qt_2 _ (List.mem_of_getElem? (i := 192) rfl) rfl
theorem q_110 : Cond.code yX1_copyFrom cX1_copyFrom 3 none ∈ zWs := qt_2 _ (List.mem_of_getElem? (i := 193) rfl) rfl
theorem q_111 : Cond.methodLink RX1 91 arraycopyName ∈ zWs := qt_2 _ (List.mem_of_getElem? (i := 204) rfl) rfl
theorem q_112 : Cond.native arraycopyName ∈ zWs := qt_2 _ (List.mem_of_getElem? (i := 141) rfl) rfl
theorem q_113 : Cond.static arraycopyName ∈ zWs := qt_2 _ (List.mem_of_getElem? (i := 140) rfl) rfl
theorem q_114 : Cond.initialized "java/lang/System" ∈ zWs := qt_1 _ (List.mem_of_getElem? (i := 12) rfl) rfl
theorem q_115 : Cond.methodLink RX1 84 yX2_copyFrom ∈ zWs := qt_2 _ (List.mem_of_getElem? (i := 194) rfl) rfl
theorem q_116 : Cond.instanceMethod yX2_copyFrom ∈ zWs := qt_2 _ (List.mem_of_getElem? (i := 195) rfl) rfl
theorem q_117 : Cond.selects RX2 yX2_copyFrom yX2_copyFrom ∈ zWs := qt_2 _ (List.mem_of_getElem? (i := 196) rfl) rfl
theorem q_118 : Cond.code yX2_copyFrom cX2_copyFrom 3 none ∈ zWs := qt_2 _ (List.mem_of_getElem? (i := 197) rfl) rfl
theorem q_119 : Cond.methodLink RX2 26 arraycopyName ∈ zWs := qt_2 _ (List.mem_of_getElem? (i := 198) rfl) rfl
theorem q_120 : Cond.methodLink RX1 88 yX0_copyFrom ∈ zWs := qt_2 _ (List.mem_of_getElem? (i := 199) rfl) rfl
theorem q_121 : Cond.instanceMethod yX0_copyFrom ∈ zWs := qt_2 _ (List.mem_of_getElem? (i := 200) rfl) rfl
theorem q_122 : Cond.selects RX0 yX0_copyFrom yX0_copyFrom ∈ zWs := qt_2 _ (List.mem_of_getElem? (i := 201) rfl) rfl
theorem q_123 : Cond.code yX0_copyFrom cX0_copyFrom 2 none ∈ zWs := qt_2 _ (List.mem_of_getElem? (i := 202) rfl) rfl
theorem q_124 : Cond.methodLink RX0 48 arraycopyName ∈ zWs := qt_2 _ (List.mem_of_getElem? (i := 203) rfl) rfl
theorem q_125 : Cond.methodLink RL 175 yL_refused ∈ zWs := qt_3 _ (List.mem_of_getElem? (i := 102) rfl) rfl
theorem q_126 : Cond.static yL_refused ∈ zWs := qt_3 _ (List.mem_of_getElem? (i := 103) rfl) rfl
theorem q_127 : Cond.code yL_refused cL_refused 6 (some .boolean) ∈ zWs := qt_3 _ (List.mem_of_getElem? (i := 104) rfl) rfl
theorem q_128 : Cond.constant RL 17 (-5000001) ∈ zWs := qt_2 _ (List.mem_of_getElem? (i := 206) rfl) rfl
theorem q_129 : Cond.constant RL 24 (-5000003) ∈ zWs := qt_2 _ (List.mem_of_getElem? (i := 205) rfl) rfl
theorem q_130 : Cond.methodLink RL 82 yX5_digest ∈ zWs := qt_1 _ (List.mem_of_getElem? (i := 222) rfl) rfl
theorem q_131 : Cond.instanceMethod yX5_digest ∈ zWs := qt_1 _ (List.mem_of_getElem? (i := 223) rfl) rfl
theorem q_132 : Cond.selects RX5 yX5_digest yX5_digest ∈ zWs := qt_1 _ (List.mem_of_getElem? (i := 224) rfl) rfl
theorem q_133 : Cond.code yX5_digest cX5_digest 5 (some .long) ∈ zWs := qt_1 _ (List.mem_of_getElem? (i := 225) rfl) rfl
theorem q_134 : Cond.constantLong RX5 199 (111073) ∈ zWs := qt_1 _ (List.mem_of_getElem? (i := 226) rfl) rfl
theorem q_135 : Cond.fieldLink RX5 180 "StockLines$Script" "length" "I" ∈ zWs := qt_1 _ (List.mem_of_getElem? (i := 203) rfl) rfl
theorem q_136 : Cond.constantLong RX5 201 (31) ∈ zWs := qt_1 _ (List.mem_of_getElem? (i := 227) rfl) rfl
theorem q_137 : Cond.fieldLink RX5 136 "StockLines$Game" "players" "I" ∈ zWs := qt_1 _ (List.mem_of_getElem? (i := 154) rfl) rfl
theorem q_138 : Cond.methodLink RX5 203 yX5_value ∈ zWs := qt_1 _ (List.mem_of_getElem? (i := 228) rfl) rfl
theorem q_139 : Cond.instanceMethod yX5_value ∈ zWs := qt_1 _ (List.mem_of_getElem? (i := 229) rfl) rfl
theorem q_140 : Cond.selects RX5 yX5_value yX5_value ∈ zWs := qt_1 _ (List.mem_of_getElem? (i := 230) rfl) rfl
theorem q_141 : Cond.code yX5_value cX5_value 2 (some .int) ∈ zWs := qt_1 _ (List.mem_of_getElem? (i := 231) rfl) rfl
theorem q_142 : Cond.classLink RX5 36 "java/lang/IllegalArgumentException" ∈ zWs := qt_1 _ (List.mem_of_getElem? (i := 232) rfl) rfl
theorem q_143 : Cond.initialized "java/lang/IllegalArgumentException" ∈ zWs := qt_1 _ (List.mem_of_getElem? (i := 13) rfl) rfl
theorem q_144 : Cond.methodLink RX5 162 yX1_number ∈ zWs := qt_2 _ (List.mem_of_getElem? (i := 55) rfl) rfl
theorem q_145 : Cond.instanceMethod yX1_number ∈ zWs := qt_2 _ (List.mem_of_getElem? (i := 56) rfl) rfl
theorem q_146 : Cond.selects RX1 yX1_number yX1_number ∈ zWs := qt_2 _ (List.mem_of_getElem? (i := 57) rfl) rfl
theorem q_147 : Cond.code yX1_number cX1_number 2 (some .int) ∈ zWs := qt_2 _ (List.mem_of_getElem? (i := 58) rfl) rfl
theorem q_148 : Cond.methodLink RX1 153 yX1_nextCompany ∈ zWs := qt_2 _ (List.mem_of_getElem? (i := 59) rfl) rfl
theorem q_149 : Cond.instanceMethod yX1_nextCompany ∈ zWs := qt_2 _ (List.mem_of_getElem? (i := 60) rfl) rfl
theorem q_150 : Cond.selects RX1 yX1_nextCompany yX1_nextCompany ∈ zWs := qt_2 _ (List.mem_of_getElem? (i := 61) rfl) rfl
theorem q_151 : Cond.code yX1_nextCompany cX1_nextCompany 1 (some .int) ∈ zWs := qt_2 _ (List.mem_of_getElem? (i := 62) rfl) rfl
theorem q_152 : Cond.methodLink RX1 236 yX2_tracks ∈ zWs := qt_2 _ (List.mem_of_getElem? (i := 63) rfl) rfl
theorem q_153 : Cond.instanceMethod yX2_tracks ∈ zWs := qt_2 _ (List.mem_of_getElem? (i := 64) rfl) rfl
theorem q_154 : Cond.selects RX2 yX2_tracks yX2_tracks ∈ zWs := qt_2 _ (List.mem_of_getElem? (i := 65) rfl) rfl
theorem q_155 : Cond.code yX2_tracks cX2_tracks 4 (some .int) ∈ zWs := qt_2 _ (List.mem_of_getElem? (i := 66) rfl) rfl
theorem q_156 : Cond.methodLink RX1 239 yX1_openCompanies ∈ zWs := qt_2 _ (List.mem_of_getElem? (i := 67) rfl) rfl
theorem q_157 : Cond.instanceMethod yX1_openCompanies ∈ zWs := qt_2 _ (List.mem_of_getElem? (i := 68) rfl) rfl
theorem q_158 : Cond.selects RX1 yX1_openCompanies yX1_openCompanies ∈ zWs := qt_2 _ (List.mem_of_getElem? (i := 69) rfl) rfl
theorem q_159 : Cond.code yX1_openCompanies cX1_openCompanies 3 (some .int) ∈ zWs := qt_2 _ (List.mem_of_getElem? (i := 70) rfl) rfl
theorem q_160 : Cond.fieldLink RX1 97 "StockLines$Company" "open" "Z" ∈ zWs := qt_1 _ (List.mem_of_getElem? (i := 93) rfl) rfl
theorem q_161 : Cond.methodLink RX5 206 yX5_player ∈ zWs := qt_2 _ (List.mem_of_getElem? (i := 71) rfl) rfl
theorem q_162 : Cond.instanceMethod yX5_player ∈ zWs := qt_2 _ (List.mem_of_getElem? (i := 72) rfl) rfl
theorem q_163 : Cond.selects RX5 yX5_player yX5_player ∈ zWs := qt_2 _ (List.mem_of_getElem? (i := 73) rfl) rfl
theorem q_164 : Cond.code yX5_player cX5_player 3 (some .int) ∈ zWs := qt_2 _ (List.mem_of_getElem? (i := 74) rfl) rfl
theorem q_165 : Cond.classLink RX5 53 "java/lang/IndexOutOfBoundsException" ∈ zWs := qt_2 _ (List.mem_of_getElem? (i := 75) rfl) rfl
theorem q_166 : Cond.initialized "java/lang/IndexOutOfBoundsException" ∈ zWs := qt_1 _ (List.mem_of_getElem? (i := 14) rfl) rfl
theorem q_167 : Cond.fieldLink RX5 105 "StockLines$Game" "cash" "[I" ∈ zWs := qt_1 _ (List.mem_of_getElem? (i := 148) rfl) rfl
theorem q_168 : Cond.fieldLink RX5 80 "StockLines$Game" "companies" "[LStockLines$Company;" ∈ zWs := qt_1 _ (List.mem_of_getElem? (i := 146) rfl) rfl
theorem q_169 : Cond.fieldLink RX5 139 "StockLines$Company" "held" "[I" ∈ zWs := qt_1 _ (List.mem_of_getElem? (i := 91) rfl) rfl
theorem q_170 : Cond.methodLink RX5 142 yX1_worthOf ∈ zWs := qt_2 _ (List.mem_of_getElem? (i := 90) rfl) rfl
theorem q_171 : Cond.instanceMethod yX1_worthOf ∈ zWs := qt_2 _ (List.mem_of_getElem? (i := 91) rfl) rfl
theorem q_172 : Cond.selects RX1 yX1_worthOf yX1_worthOf ∈ zWs := qt_2 _ (List.mem_of_getElem? (i := 92) rfl) rfl
theorem q_173 : Cond.code yX1_worthOf cX1_worthOf 4 (some .int) ∈ zWs := qt_2 _ (List.mem_of_getElem? (i := 93) rfl) rfl
theorem q_174 : Cond.fieldLink RX1 115 "StockLines$Company" "held" "[I" ∈ zWs := qt_1 _ (List.mem_of_getElem? (i := 90) rfl) rfl
theorem q_175 : Cond.methodLink RX1 108 yX0_price ∈ zWs := qt_2 _ (List.mem_of_getElem? (i := 94) rfl) rfl
theorem q_176 : Cond.instanceMethod yX0_price ∈ zWs := qt_2 _ (List.mem_of_getElem? (i := 95) rfl) rfl
theorem q_177 : Cond.selects RX0 yX0_price yX0_price ∈ zWs := qt_2 _ (List.mem_of_getElem? (i := 96) rfl) rfl
theorem q_178 : Cond.code yX0_price cX0_price 1 (some .int) ∈ zWs := qt_2 _ (List.mem_of_getElem? (i := 97) rfl) rfl
theorem q_179 : Cond.methodLink RX0 19 yX0_priceAt ∈ zWs := qt_2 _ (List.mem_of_getElem? (i := 98) rfl) rfl
theorem q_180 : Cond.static yX0_priceAt ∈ zWs := qt_2 _ (List.mem_of_getElem? (i := 99) rfl) rfl
theorem q_181 : Cond.code yX0_priceAt cX0_priceAt 1 (some .int) ∈ zWs := qt_2 _ (List.mem_of_getElem? (i := 100) rfl) rfl
theorem q_182 : Cond.methodLink RX5 145 yX1_presidenciesOf ∈ zWs := qt_2 _ (List.mem_of_getElem? (i := 101) rfl) rfl
theorem q_183 : Cond.instanceMethod yX1_presidenciesOf ∈ zWs := qt_2 _ (List.mem_of_getElem? (i := 102) rfl) rfl
theorem q_184 : Cond.selects RX1 yX1_presidenciesOf yX1_presidenciesOf ∈ zWs := qt_2 _ (List.mem_of_getElem? (i := 103) rfl) rfl
theorem q_185 : Cond.code yX1_presidenciesOf cX1_presidenciesOf 4 (some .int) ∈ zWs := qt_2 _ (List.mem_of_getElem? (i := 104) rfl) rfl
theorem q_186 : Cond.fieldLink RX1 135 "StockLines$Company" "president" "I" ∈ zWs := qt_1 _ (List.mem_of_getElem? (i := 105) rfl) rfl
theorem q_187 : Cond.methodLink RX5 210 yX5_company ∈ zWs := qt_2 _ (List.mem_of_getElem? (i := 105) rfl) rfl
theorem q_188 : Cond.instanceMethod yX5_company ∈ zWs := qt_2 _ (List.mem_of_getElem? (i := 106) rfl) rfl
theorem q_189 : Cond.selects RX5 yX5_company yX5_company ∈ zWs := qt_2 _ (List.mem_of_getElem? (i := 107) rfl) rfl
theorem q_190 : Cond.code yX5_company cX5_company 4 (some .int) ∈ zWs := qt_2 _ (List.mem_of_getElem? (i := 108) rfl) rfl
theorem q_191 : Cond.fieldLink RX5 148 "StockLines$Company" "open" "Z" ∈ zWs := qt_1 _ (List.mem_of_getElem? (i := 94) rfl) rfl
theorem q_192 : Cond.methodLink RX5 66 yX5_isCompany ∈ zWs := qt_2 _ (List.mem_of_getElem? (i := 109) rfl) rfl
theorem q_193 : Cond.static yX5_isCompany ∈ zWs := qt_2 _ (List.mem_of_getElem? (i := 110) rfl) rfl
theorem q_194 : Cond.code yX5_isCompany cX5_isCompany 1 (some .boolean) ∈ zWs := qt_2 _ (List.mem_of_getElem? (i := 111) rfl) rfl
theorem q_195 : Cond.methodLink RX5 151 yX1_incomeOf ∈ zWs := qt_2 _ (List.mem_of_getElem? (i := 112) rfl) rfl
theorem q_196 : Cond.instanceMethod yX1_incomeOf ∈ zWs := qt_2 _ (List.mem_of_getElem? (i := 113) rfl) rfl
theorem q_197 : Cond.selects RX1 yX1_incomeOf yX1_incomeOf ∈ zWs := qt_2 _ (List.mem_of_getElem? (i := 114) rfl) rfl
theorem q_198 : Cond.code yX1_incomeOf cX1_incomeOf 2 (some .int) ∈ zWs := qt_2 _ (List.mem_of_getElem? (i := 115) rfl) rfl
theorem q_199 : Cond.fieldLink RX1 175 "StockLines$Company" "home" "I" ∈ zWs := qt_1 _ (List.mem_of_getElem? (i := 96) rfl) rfl
theorem q_200 : Cond.fieldLink RX1 156 "StockLines$Company" "stops" "I" ∈ zWs := qt_1 _ (List.mem_of_getElem? (i := 103) rfl) rfl
theorem q_201 : Cond.methodLink RX1 222 yX3_find ∈ zWs := qt_2 _ (List.mem_of_getElem? (i := 116) rfl) rfl
theorem q_202 : Cond.instanceMethod yX3_find ∈ zWs := qt_2 _ (List.mem_of_getElem? (i := 117) rfl) rfl
theorem q_203 : Cond.selects RX3 yX3_find yX3_find ∈ zWs := qt_2 _ (List.mem_of_getElem? (i := 118) rfl) rfl
theorem q_204 : Cond.code yX3_find cX3_find 5 none ∈ zWs := qt_2 _ (List.mem_of_getElem? (i := 119) rfl) rfl
theorem q_205 : Cond.fieldLink RX3 41 "StockLines$RouteSearch" "land" "LStockLines$Land;" ∈ zWs := qt_1 _ (List.mem_of_getElem? (i := 33) rfl) rfl
theorem q_206 : Cond.fieldLink RX3 45 "StockLines$RouteSearch" "homeBit" "I" ∈ zWs := qt_1 _ (List.mem_of_getElem? (i := 34) rfl) rfl
theorem q_207 : Cond.methodLink RX3 49 yJ9_min_7cf53 ∈ zWs := qt_2 _ (List.mem_of_getElem? (i := 129) rfl) rfl
theorem q_208 : Cond.static yJ9_min_7cf53 ∈ zWs := qt_2 _ (List.mem_of_getElem? (i := 130) rfl) rfl
theorem q_209 : Cond.initialized "java/lang/Math" ∈ zWs := qt_1 _ (List.mem_of_getElem? (i := 15) rfl) rfl
theorem q_210 : Cond.code yJ9_min_7cf53 cJ9_min_7cf53 2 (some .int) ∈ zWs := qt_2 _ (List.mem_of_getElem? (i := 131) rfl) rfl
theorem q_211 : Cond.fieldLink RX3 55 "StockLines$RouteSearch" "stops" "I" ∈ zWs := qt_1 _ (List.mem_of_getElem? (i := 35) rfl) rfl
theorem q_212 : Cond.fieldLink RX3 58 "StockLines$RouteSearch" "bestLength" "I" ∈ zWs := qt_1 _ (List.mem_of_getElem? (i := 36) rfl) rfl
theorem q_213 : Cond.fieldLink RX3 61 "StockLines$RouteSearch" "bestIncome" "I" ∈ zWs := qt_1 _ (List.mem_of_getElem? (i := 37) rfl) rfl
theorem q_214 : Cond.methodLink RX3 37 yX3_measure ∈ zWs := qt_2 _ (List.mem_of_getElem? (i := 120) rfl) rfl
theorem q_215 : Cond.instanceMethod yX3_measure ∈ zWs := qt_2 _ (List.mem_of_getElem? (i := 121) rfl) rfl
theorem q_216 : Cond.selects RX3 yX3_measure yX3_measure ∈ zWs := qt_2 _ (List.mem_of_getElem? (i := 122) rfl) rfl
theorem q_217 : Cond.code yX3_measure cX3_measure 6 none ∈ zWs := qt_2 _ (List.mem_of_getElem? (i := 123) rfl) rfl
theorem q_218 : Cond.fieldLink RX3 27 "StockLines$Land" "level" "[[I" ∈ zWs := qt_1 _ (List.mem_of_getElem? (i := 74) rfl) rfl
theorem q_219 : Cond.methodLink RX3 21 yJ7_fill_53178 ∈ zWs := qt_2 _ (List.mem_of_getElem? (i := 124) rfl) rfl
theorem q_220 : Cond.methodLink RX3 33 yX3_markNeighbours ∈ zWs := qt_2 _ (List.mem_of_getElem? (i := 125) rfl) rfl
theorem q_221 : Cond.instanceMethod yX3_markNeighbours ∈ zWs := qt_2 _ (List.mem_of_getElem? (i := 127) rfl) rfl
theorem q_222 : Cond.selects RX3 yX3_markNeighbours yX3_markNeighbours ∈ zWs := qp_1 _ (List.mem_of_getElem? (i := 1) rfl)
theorem q_223 : Cond.code yX3_markNeighbours cX3_markNeighbours 5 (some .boolean) ∈ zWs := qt_2 _ (List.mem_of_getElem? (i := 128) rfl) rfl
theorem q_224 : Cond.methodLink RX3 64 yX3_grow ∈ zWs := qt_2 _ (List.mem_of_getElem? (i := 132) rfl) rfl
theorem q_225 : Cond.static yX3_grow ∈ zWs := qt_2 _ (List.mem_of_getElem? (i := 133) rfl) rfl
theorem q_226 : Cond.code yX3_grow cX3_grow 12 none ∈ zWs := qt_2 _ (List.mem_of_getElem? (i := 134) rfl) rfl
theorem q_227 : Cond.fieldLink RX3 71 "StockLines$Land" "worth" "[I" ∈ zWs := qt_1 _ (List.mem_of_getElem? (i := 72) rfl) rfl
theorem q_228 : Cond.methodLink RX3 74 yX3_keep ∈ zWs := qt_2 _ (List.mem_of_getElem? (i := 135) rfl) rfl
theorem q_229 : Cond.instanceMethod yX3_keep ∈ zWs := qt_2 _ (List.mem_of_getElem? (i := 137) rfl) rfl
theorem q_230 : Cond.selects RX3 yX3_keep yX3_keep ∈ zWs := qp_1 _ (List.mem_of_getElem? (i := 2) rfl)
theorem q_231 : Cond.code yX3_keep cX3_keep 3 none ∈ zWs := qt_2 _ (List.mem_of_getElem? (i := 138) rfl) rfl
theorem q_232 : Cond.methodLink RX3 78 arraycopyName ∈ zWs := qt_2 _ (List.mem_of_getElem? (i := 139) rfl) rfl
theorem q_233 : Cond.methodLink RX1 226 yX3_income ∈ zWs := qt_2 _ (List.mem_of_getElem? (i := 142) rfl) rfl
theorem q_234 : Cond.instanceMethod yX3_income ∈ zWs := qt_2 _ (List.mem_of_getElem? (i := 143) rfl) rfl
theorem q_235 : Cond.selects RX3 yX3_income yX3_income ∈ zWs := qt_2 _ (List.mem_of_getElem? (i := 144) rfl) rfl
theorem q_236 : Cond.code yX3_income cX3_income 1 (some .int) ∈ zWs := qt_2 _ (List.mem_of_getElem? (i := 145) rfl) rfl
theorem q_237 : Cond.methodLink RX3 68 yJ9_max_7cf53 ∈ zWs := qt_2 _ (List.mem_of_getElem? (i := 146) rfl) rfl
theorem q_238 : Cond.static yJ9_max_7cf53 ∈ zWs := qt_2 _ (List.mem_of_getElem? (i := 147) rfl) rfl
theorem q_239 : Cond.code yJ9_max_7cf53 cJ9_max_7cf53 2 (some .int) ∈ zWs := qt_2 _ (List.mem_of_getElem? (i := 148) rfl) rfl
theorem q_240 : Cond.methodLink RX5 155 yX0_number ∈ zWs := qt_2 _ (List.mem_of_getElem? (i := 149) rfl) rfl
theorem q_241 : Cond.instanceMethod yX0_number ∈ zWs := qt_2 _ (List.mem_of_getElem? (i := 150) rfl) rfl
theorem q_242 : Cond.selects RX0 yX0_number yX0_number ∈ zWs := qt_2 _ (List.mem_of_getElem? (i := 151) rfl) rfl
theorem q_243 : Cond.code yX0_number cX0_number 2 (some .int) ∈ zWs := qt_2 _ (List.mem_of_getElem? (i := 152) rfl) rfl
theorem q_244 : Cond.methodLink RX0 54 yX0_price ∈ zWs := qt_2 _ (List.mem_of_getElem? (i := 153) rfl) rfl
theorem q_245 : Cond.methodLink RX0 58 yX0_bankShares ∈ zWs := qt_2 _ (List.mem_of_getElem? (i := 154) rfl) rfl
theorem q_246 : Cond.instanceMethod yX0_bankShares ∈ zWs := qt_2 _ (List.mem_of_getElem? (i := 155) rfl) rfl
theorem q_247 : Cond.selects RX0 yX0_bankShares yX0_bankShares ∈ zWs := qt_2 _ (List.mem_of_getElem? (i := 156) rfl) rfl
theorem q_248 : Cond.code yX0_bankShares cX0_bankShares 3 (some .int) ∈ zWs := qt_2 _ (List.mem_of_getElem? (i := 157) rfl) rfl
theorem q_249 : Cond.methodLink RX5 213 yX5_track ∈ zWs := qt_2 _ (List.mem_of_getElem? (i := 158) rfl) rfl
theorem q_250 : Cond.instanceMethod yX5_track ∈ zWs := qt_2 _ (List.mem_of_getElem? (i := 159) rfl) rfl
theorem q_251 : Cond.selects RX5 yX5_track yX5_track ∈ zWs := qt_2 _ (List.mem_of_getElem? (i := 160) rfl) rfl
theorem q_252 : Cond.code yX5_track cX5_track 3 (some .int) ∈ zWs := qt_2 _ (List.mem_of_getElem? (i := 161) rfl) rfl
theorem q_253 : Cond.fieldLink RX5 56 "StockLines$Game" "land" "LStockLines$Land;" ∈ zWs := qt_1 _ (List.mem_of_getElem? (i := 144) rfl) rfl
theorem q_254 : Cond.fieldLink RX5 158 "StockLines$Land" "level" "[[I" ∈ zWs := qt_1 _ (List.mem_of_getElem? (i := 75) rfl) rfl
theorem q_255 : Cond.methodLink RX5 49 yX5_isTown ∈ zWs := qt_2 _ (List.mem_of_getElem? (i := 162) rfl) rfl
theorem q_256 : Cond.static yX5_isTown ∈ zWs := qt_2 _ (List.mem_of_getElem? (i := 163) rfl) rfl
theorem q_257 : Cond.code yX5_isTown cX5_isTown 1 (some .boolean) ∈ zWs := qt_2 _ (List.mem_of_getElem? (i := 164) rfl) rfl
theorem q_258 : Cond.methodLink RX5 216 yX5_town ∈ zWs := qt_2 _ (List.mem_of_getElem? (i := 165) rfl) rfl
theorem q_259 : Cond.instanceMethod yX5_town ∈ zWs := qt_2 _ (List.mem_of_getElem? (i := 166) rfl) rfl
theorem q_260 : Cond.selects RX5 yX5_town yX5_town ∈ zWs := qt_2 _ (List.mem_of_getElem? (i := 167) rfl) rfl
theorem q_261 : Cond.code yX5_town cX5_town 2 (some .int) ∈ zWs := qt_2 _ (List.mem_of_getElem? (i := 168) rfl) rfl
theorem q_262 : Cond.fieldLink RX5 60 "StockLines$Land" "worth" "[I" ∈ zWs := qt_1 _ (List.mem_of_getElem? (i := 71) rfl) rfl
theorem q_263 : Cond.methodLink RL 86 yL_values ∈ zWs := qt_3 _ (List.mem_of_getElem? (i := 87) rfl) rfl
theorem q_264 : Cond.static yL_values ∈ zWs := qt_3 _ (List.mem_of_getElem? (i := 88) rfl) rfl
theorem q_265 : Cond.codeWith yL_values cL_values 3 (some .int) [(0, 5, 6, 15)] ∈ zWs := qt_3 _ (List.mem_of_getElem? (i := 89) rfl) rfl
theorem q_266 : Cond.classLink RL 15 "java/lang/IllegalArgumentException" ∈ zWs := qt_2 _ (List.mem_of_getElem? (i := 181) rfl) rfl
theorem q_267 : Cond.methodLink RL 61 yX5_value ∈ zWs := qt_3 _ (List.mem_of_getElem? (i := 90) rfl) rfl
theorem q_268 : Cond.methodLink RL 92 yL_begins ∈ zWs := qt_3 _ (List.mem_of_getElem? (i := 105) rfl) rfl
theorem q_269 : Cond.static yL_begins ∈ zWs := qt_3 _ (List.mem_of_getElem? (i := 106) rfl) rfl
theorem q_270 : Cond.codeWith yL_begins cL_begins 3 (some .int) [(0, 5, 6, 15)] ∈ zWs := qt_3 _ (List.mem_of_getElem? (i := 107) rfl) rfl
theorem q_271 : Cond.methodLink RL 9 yX5_begin ∈ zWs := qt_3 _ (List.mem_of_getElem? (i := 108) rfl) rfl
theorem q_272 : Cond.instanceMethod yX5_begin ∈ zWs := qt_3 _ (List.mem_of_getElem? (i := 109) rfl) rfl
theorem q_273 : Cond.selects RX5 yX5_begin yX5_begin ∈ zWs := qt_3 _ (List.mem_of_getElem? (i := 110) rfl) rfl
theorem q_274 : Cond.code yX5_begin cX5_begin 3 (some .int) ∈ zWs := qt_3 _ (List.mem_of_getElem? (i := 111) rfl) rfl
theorem q_275 : Cond.fieldLink RX5 42 "StockLines$Game" "phasesOver" "I" ∈ zWs := qt_1 _ (List.mem_of_getElem? (i := 160) rfl) rfl
theorem q_276 : Cond.methodLink RX5 39 yX5_saveState ∈ zWs := qt_2 _ (List.mem_of_getElem? (i := 186) rfl) rfl
theorem q_277 : Cond.instanceMethod yX5_saveState ∈ zWs := qt_2 _ (List.mem_of_getElem? (i := 188) rfl) rfl
theorem q_278 : Cond.selects RX5 yX5_saveState yX5_saveState ∈ zWs := qp_1 _ (List.mem_of_getElem? (i := 3) rfl)
theorem q_279 : Cond.code yX5_saveState cX5_saveState 3 none ∈ zWs := qt_2 _ (List.mem_of_getElem? (i := 189) rfl) rfl
theorem q_280 : Cond.methodLink RX5 45 yX1_reset ∈ zWs := qt_3 _ (List.mem_of_getElem? (i := 112) rfl) rfl
theorem q_281 : Cond.methodLink RL 95 yL_setsTown ∈ zWs := qt_2 _ (List.mem_of_getElem? (i := 177) rfl) rfl
theorem q_282 : Cond.static yL_setsTown ∈ zWs := qt_2 _ (List.mem_of_getElem? (i := 178) rfl) rfl
theorem q_283 : Cond.codeWith yL_setsTown cL_setsTown 4 (some .int) [(0, 6, 7, 22), (0, 6, 11, 15)] ∈ zWs := qt_2 _ (List.mem_of_getElem? (i := 179) rfl) rfl
theorem q_284 : Cond.classLink RL 22 "java/lang/IndexOutOfBoundsException" ∈ zWs := qt_2 _ (List.mem_of_getElem? (i := 180) rfl) rfl
theorem q_285 : Cond.methodLink RL 18 yX5_setTown ∈ zWs := qt_2 _ (List.mem_of_getElem? (i := 182) rfl) rfl
theorem q_286 : Cond.instanceMethod yX5_setTown ∈ zWs := qt_2 _ (List.mem_of_getElem? (i := 183) rfl) rfl
theorem q_287 : Cond.selects RX5 yX5_setTown yX5_setTown ∈ zWs := qt_2 _ (List.mem_of_getElem? (i := 184) rfl) rfl
theorem q_288 : Cond.code yX5_setTown cX5_setTown 4 (some .int) ∈ zWs := qt_2 _ (List.mem_of_getElem? (i := 185) rfl) rfl
theorem q_289 : Cond.methodLink RL 99 yL_starts ∈ zWs := qt_3 _ (List.mem_of_getElem? (i := 113) rfl) rfl
theorem q_290 : Cond.static yL_starts ∈ zWs := qt_3 _ (List.mem_of_getElem? (i := 114) rfl) rfl
theorem q_291 : Cond.codeWith yL_starts cL_starts 5 (some .int) [(0, 7, 8, 22), (0, 7, 13, 15), (0, 7, 18, 29)] ∈ zWs := qt_3 _ (List.mem_of_getElem? (i := 115) rfl) rfl
theorem q_292 : Cond.methodLink RL 25 yX5_start ∈ zWs := qt_3 _ (List.mem_of_getElem? (i := 116) rfl) rfl
theorem q_293 : Cond.instanceMethod yX5_start ∈ zWs := qt_3 _ (List.mem_of_getElem? (i := 117) rfl) rfl
theorem q_294 : Cond.selects RX5 yX5_start yX5_start ∈ zWs := qt_3 _ (List.mem_of_getElem? (i := 118) rfl) rfl
theorem q_295 : Cond.code yX5_start cX5_start 4 (some .int) ∈ zWs := qt_3 _ (List.mem_of_getElem? (i := 119) rfl) rfl
theorem q_296 : Cond.fieldLink RX5 84 "StockLines$Company" "cash" "I" ∈ zWs := qt_1 _ (List.mem_of_getElem? (i := 97) rfl) rfl
theorem q_297 : Cond.methodLink RX5 69 yX1_canStart ∈ zWs := qt_3 _ (List.mem_of_getElem? (i := 120) rfl) rfl
theorem q_298 : Cond.instanceMethod yX1_canStart ∈ zWs := qt_3 _ (List.mem_of_getElem? (i := 121) rfl) rfl
theorem q_299 : Cond.selects RX1 yX1_canStart yX1_canStart ∈ zWs := qt_3 _ (List.mem_of_getElem? (i := 122) rfl) rfl
theorem q_300 : Cond.code yX1_canStart cX1_canStart 3 (some .boolean) ∈ zWs := qt_3 _ (List.mem_of_getElem? (i := 123) rfl) rfl
theorem q_301 : Cond.methodLink RX1 100 yX0_priceAt ∈ zWs := qt_3 _ (List.mem_of_getElem? (i := 78) rfl) rfl
theorem q_302 : Cond.methodLink RX5 76 yX1_startCompany ∈ zWs := qt_3 _ (List.mem_of_getElem? (i := 124) rfl) rfl
theorem q_303 : Cond.instanceMethod yX1_startCompany ∈ zWs := qt_3 _ (List.mem_of_getElem? (i := 125) rfl) rfl
theorem q_304 : Cond.selects RX1 yX1_startCompany yX1_startCompany ∈ zWs := qt_3 _ (List.mem_of_getElem? (i := 126) rfl) rfl
theorem q_305 : Cond.code yX1_startCompany cX1_startCompany 6 none ∈ zWs := qt_3 _ (List.mem_of_getElem? (i := 127) rfl) rfl
theorem q_306 : Cond.fieldLink RX1 121 "StockLines$Company" "cash" "I" ∈ zWs := qt_1 _ (List.mem_of_getElem? (i := 99) rfl) rfl
theorem q_307 : Cond.methodLink RX1 104 yX0_openAt ∈ zWs := qt_3 _ (List.mem_of_getElem? (i := 128) rfl) rfl
theorem q_308 : Cond.instanceMethod yX0_openAt ∈ zWs := qt_3 _ (List.mem_of_getElem? (i := 129) rfl) rfl
theorem q_309 : Cond.selects RX0 yX0_openAt yX0_openAt ∈ zWs := qt_3 _ (List.mem_of_getElem? (i := 130) rfl) rfl
theorem q_310 : Cond.code yX0_openAt cX0_openAt 3 none ∈ zWs := qt_3 _ (List.mem_of_getElem? (i := 131) rfl) rfl
theorem q_311 : Cond.methodLink RX1 112 yX1_playerPays ∈ zWs := qt_3 _ (List.mem_of_getElem? (i := 49) rfl) rfl
theorem q_312 : Cond.instanceMethod yX1_playerPays ∈ zWs := qt_3 _ (List.mem_of_getElem? (i := 51) rfl) rfl
theorem q_313 : Cond.selects RX1 yX1_playerPays yX1_playerPays ∈ zWs := qp_1 _ (List.mem_of_getElem? (i := 10) rfl)
theorem q_314 : Cond.code yX1_playerPays cX1_playerPays 3 none ∈ zWs := qt_3 _ (List.mem_of_getElem? (i := 52) rfl) rfl
theorem q_315 : Cond.methodLink RX1 118 yX0_findPresident ∈ zWs := qt_3 _ (List.mem_of_getElem? (i := 79) rfl) rfl
theorem q_316 : Cond.instanceMethod yX0_findPresident ∈ zWs := qt_3 _ (List.mem_of_getElem? (i := 80) rfl) rfl
theorem q_317 : Cond.selects RX0 yX0_findPresident yX0_findPresident ∈ zWs := qt_3 _ (List.mem_of_getElem? (i := 81) rfl) rfl
theorem q_318 : Cond.code yX0_findPresident cX0_findPresident 4 none ∈ zWs := qt_3 _ (List.mem_of_getElem? (i := 82) rfl) rfl
theorem q_319 : Cond.methodLink RX1 123 yX1_endActiveTurn ∈ zWs := qt_3 _ (List.mem_of_getElem? (i := 132) rfl) rfl
theorem q_320 : Cond.instanceMethod yX1_endActiveTurn ∈ zWs := qt_3 _ (List.mem_of_getElem? (i := 134) rfl) rfl
theorem q_321 : Cond.selects RX1 yX1_endActiveTurn yX1_endActiveTurn ∈ zWs := qp_1 _ (List.mem_of_getElem? (i := 14) rfl)
theorem q_322 : Cond.code yX1_endActiveTurn cX1_endActiveTurn 1 none ∈ zWs := qt_3 _ (List.mem_of_getElem? (i := 135) rfl) rfl
theorem q_323 : Cond.methodLink RX1 141 yX1_nextTurn ∈ zWs := qt_2 _ (List.mem_of_getElem? (i := 234) rfl) rfl
theorem q_324 : Cond.instanceMethod yX1_nextTurn ∈ zWs := qt_2 _ (List.mem_of_getElem? (i := 236) rfl) rfl
theorem q_325 : Cond.selects RX1 yX1_nextTurn yX1_nextTurn ∈ zWs := qp_1 _ (List.mem_of_getElem? (i := 4) rfl)
theorem q_326 : Cond.code yX1_nextTurn cX1_nextTurn 1 none ∈ zWs := qt_2 _ (List.mem_of_getElem? (i := 237) rfl) rfl
theorem q_327 : Cond.methodLink RL 103 yL_buys ∈ zWs := qt_3 _ (List.mem_of_getElem? (i := 136) rfl) rfl
theorem q_328 : Cond.static yL_buys ∈ zWs := qt_3 _ (List.mem_of_getElem? (i := 137) rfl) rfl
theorem q_329 : Cond.codeWith yL_buys cL_buys 3 (some .int) [(0, 5, 6, 22), (0, 5, 10, 29)] ∈ zWs := qt_3 _ (List.mem_of_getElem? (i := 138) rfl) rfl
theorem q_330 : Cond.methodLink RL 32 yX5_buy ∈ zWs := qt_3 _ (List.mem_of_getElem? (i := 139) rfl) rfl
theorem q_331 : Cond.instanceMethod yX5_buy ∈ zWs := qt_3 _ (List.mem_of_getElem? (i := 140) rfl) rfl
theorem q_332 : Cond.selects RX5 yX5_buy yX5_buy ∈ zWs := qt_3 _ (List.mem_of_getElem? (i := 141) rfl) rfl
theorem q_333 : Cond.code yX5_buy cX5_buy 2 (some .int) ∈ zWs := qt_3 _ (List.mem_of_getElem? (i := 142) rfl) rfl
theorem q_334 : Cond.methodLink RX5 89 yX1_canBuy ∈ zWs := qt_3 _ (List.mem_of_getElem? (i := 143) rfl) rfl
theorem q_335 : Cond.instanceMethod yX1_canBuy ∈ zWs := qt_3 _ (List.mem_of_getElem? (i := 144) rfl) rfl
theorem q_336 : Cond.selects RX1 yX1_canBuy yX1_canBuy ∈ zWs := qt_3 _ (List.mem_of_getElem? (i := 145) rfl) rfl
theorem q_337 : Cond.code yX1_canBuy cX1_canBuy 3 (some .boolean) ∈ zWs := qt_3 _ (List.mem_of_getElem? (i := 146) rfl) rfl
theorem q_338 : Cond.methodLink RX1 126 yX0_bankShares ∈ zWs := qt_3 _ (List.mem_of_getElem? (i := 147) rfl) rfl
theorem q_339 : Cond.methodLink RX5 92 yX1_buyShare ∈ zWs := qt_3 _ (List.mem_of_getElem? (i := 148) rfl) rfl
theorem q_340 : Cond.instanceMethod yX1_buyShare ∈ zWs := qt_3 _ (List.mem_of_getElem? (i := 149) rfl) rfl
theorem q_341 : Cond.selects RX1 yX1_buyShare yX1_buyShare ∈ zWs := qt_3 _ (List.mem_of_getElem? (i := 150) rfl) rfl
theorem q_342 : Cond.code yX1_buyShare cX1_buyShare 4 (some .int) ∈ zWs := qt_3 _ (List.mem_of_getElem? (i := 151) rfl) rfl
theorem q_343 : Cond.methodLink RL 106 yL_sells ∈ zWs := qt_3 _ (List.mem_of_getElem? (i := 152) rfl) rfl
theorem q_344 : Cond.static yL_sells ∈ zWs := qt_3 _ (List.mem_of_getElem? (i := 153) rfl) rfl
theorem q_345 : Cond.codeWith yL_sells cL_sells 4 (some .int) [(0, 6, 7, 22), (0, 6, 11, 15), (0, 6, 15, 29)] ∈ zWs := qt_3 _ (List.mem_of_getElem? (i := 154) rfl) rfl
theorem q_346 : Cond.methodLink RL 35 yX5_sell ∈ zWs := qt_3 _ (List.mem_of_getElem? (i := 155) rfl) rfl
theorem q_347 : Cond.instanceMethod yX5_sell ∈ zWs := qt_3 _ (List.mem_of_getElem? (i := 156) rfl) rfl
theorem q_348 : Cond.selects RX5 yX5_sell yX5_sell ∈ zWs := qt_3 _ (List.mem_of_getElem? (i := 157) rfl) rfl
theorem q_349 : Cond.code yX5_sell cX5_sell 3 (some .int) ∈ zWs := qt_3 _ (List.mem_of_getElem? (i := 158) rfl) rfl
theorem q_350 : Cond.fieldLink RX5 99 "StockLines$Game" "turn" "I" ∈ zWs := qt_1 _ (List.mem_of_getElem? (i := 156) rfl) rfl
theorem q_351 : Cond.methodLink RX5 96 yX1_canSell ∈ zWs := qt_3 _ (List.mem_of_getElem? (i := 159) rfl) rfl
theorem q_352 : Cond.instanceMethod yX1_canSell ∈ zWs := qt_3 _ (List.mem_of_getElem? (i := 160) rfl) rfl
theorem q_353 : Cond.selects RX1 yX1_canSell yX1_canSell ∈ zWs := qt_3 _ (List.mem_of_getElem? (i := 161) rfl) rfl
theorem q_354 : Cond.code yX1_canSell cX1_canSell 4 (some .boolean) ∈ zWs := qt_3 _ (List.mem_of_getElem? (i := 162) rfl) rfl
theorem q_355 : Cond.methodLink RX5 102 yX1_sellShares ∈ zWs := qt_3 _ (List.mem_of_getElem? (i := 163) rfl) rfl
theorem q_356 : Cond.instanceMethod yX1_sellShares ∈ zWs := qt_3 _ (List.mem_of_getElem? (i := 75) rfl) rfl
theorem q_357 : Cond.selects RX1 yX1_sellShares yX1_sellShares ∈ zWs := qt_3 _ (List.mem_of_getElem? (i := 76) rfl) rfl
theorem q_358 : Cond.code yX1_sellShares cX1_sellShares 5 none ∈ zWs := qt_3 _ (List.mem_of_getElem? (i := 77) rfl) rfl
theorem q_359 : Cond.fieldLink RX1 129 "StockLines$Company" "step" "I" ∈ zWs := qt_1 _ (List.mem_of_getElem? (i := 101) rfl) rfl
theorem q_360 : Cond.methodLink RX1 132 yX0_fall ∈ zWs := qt_3 _ (List.mem_of_getElem? (i := 57) rfl) rfl
theorem q_361 : Cond.instanceMethod yX0_fall ∈ zWs := qt_3 _ (List.mem_of_getElem? (i := 58) rfl) rfl
theorem q_362 : Cond.selects RX0 yX0_fall yX0_fall ∈ zWs := qt_3 _ (List.mem_of_getElem? (i := 59) rfl) rfl
theorem q_363 : Cond.code yX0_fall cX0_fall 1 none ∈ zWs := qt_3 _ (List.mem_of_getElem? (i := 60) rfl) rfl
theorem q_364 : Cond.methodLink RL 109 yL_merges ∈ zWs := qt_3 _ (List.mem_of_getElem? (i := 164) rfl) rfl
theorem q_365 : Cond.static yL_merges ∈ zWs := qt_3 _ (List.mem_of_getElem? (i := 165) rfl) rfl
theorem q_366 : Cond.codeWith yL_merges cL_merges 4 (some .int) [(0, 6, 7, 22), (0, 6, 11, 15), (0, 6, 15, 29)] ∈ zWs := qt_3 _ (List.mem_of_getElem? (i := 166) rfl) rfl
theorem q_367 : Cond.methodLink RL 38 yX5_merge ∈ zWs := qt_3 _ (List.mem_of_getElem? (i := 167) rfl) rfl
theorem q_368 : Cond.instanceMethod yX5_merge ∈ zWs := qt_3 _ (List.mem_of_getElem? (i := 168) rfl) rfl
theorem q_369 : Cond.selects RX5 yX5_merge yX5_merge ∈ zWs := qt_3 _ (List.mem_of_getElem? (i := 169) rfl) rfl
theorem q_370 : Cond.code yX5_merge cX5_merge 3 (some .int) ∈ zWs := qt_3 _ (List.mem_of_getElem? (i := 170) rfl) rfl
theorem q_371 : Cond.methodLink RX5 107 yX1_canMerge ∈ zWs := qt_3 _ (List.mem_of_getElem? (i := 171) rfl) rfl
theorem q_372 : Cond.instanceMethod yX1_canMerge ∈ zWs := qt_3 _ (List.mem_of_getElem? (i := 172) rfl) rfl
theorem q_373 : Cond.selects RX1 yX1_canMerge yX1_canMerge ∈ zWs := qt_3 _ (List.mem_of_getElem? (i := 173) rfl) rfl
theorem q_374 : Cond.code yX1_canMerge cX1_canMerge 5 (some .boolean) ∈ zWs := qt_3 _ (List.mem_of_getElem? (i := 174) rfl) rfl
theorem q_375 : Cond.methodLink RX1 138 yX0_exchangedShares ∈ zWs := qt_3 _ (List.mem_of_getElem? (i := 175) rfl) rfl
theorem q_376 : Cond.instanceMethod yX0_exchangedShares ∈ zWs := qt_3 _ (List.mem_of_getElem? (i := 176) rfl) rfl
theorem q_377 : Cond.selects RX0 yX0_exchangedShares yX0_exchangedShares ∈ zWs := qt_3 _ (List.mem_of_getElem? (i := 177) rfl) rfl
theorem q_378 : Cond.code yX0_exchangedShares cX0_exchangedShares 3 (some .int) ∈ zWs := qt_3 _ (List.mem_of_getElem? (i := 178) rfl) rfl
theorem q_379 : Cond.methodLink RX5 110 yX1_mergeCompanies ∈ zWs := qt_3 _ (List.mem_of_getElem? (i := 179) rfl) rfl
theorem q_380 : Cond.instanceMethod yX1_mergeCompanies ∈ zWs := qt_3 _ (List.mem_of_getElem? (i := 180) rfl) rfl
theorem q_381 : Cond.selects RX1 yX1_mergeCompanies yX1_mergeCompanies ∈ zWs := qt_3 _ (List.mem_of_getElem? (i := 181) rfl) rfl
theorem q_382 : Cond.code yX1_mergeCompanies cX1_mergeCompanies 8 none ∈ zWs := qt_3 _ (List.mem_of_getElem? (i := 182) rfl) rfl
theorem q_383 : Cond.methodLink RL 112 yL_operates ∈ zWs := qt_3 _ (List.mem_of_getElem? (i := 11) rfl) rfl
theorem q_384 : Cond.static yL_operates ∈ zWs := qt_3 _ (List.mem_of_getElem? (i := 12) rfl) rfl
theorem q_385 : Cond.codeWith yL_operates cL_operates 5 (some .int) [(0, 7, 8, 22), (0, 7, 13, 15), (0, 7, 18, 29)] ∈ zWs := qt_3 _ (List.mem_of_getElem? (i := 13) rfl) rfl
theorem q_386 : Cond.methodLink RL 48 yX5_operate ∈ zWs := qt_3 _ (List.mem_of_getElem? (i := 14) rfl) rfl
theorem q_387 : Cond.instanceMethod yX5_operate ∈ zWs := qt_3 _ (List.mem_of_getElem? (i := 15) rfl) rfl
theorem q_388 : Cond.selects RX5 yX5_operate yX5_operate ∈ zWs := qt_3 _ (List.mem_of_getElem? (i := 16) rfl) rfl
theorem q_389 : Cond.code yX5_operate cX5_operate 5 (some .int) ∈ zWs := qt_3 _ (List.mem_of_getElem? (i := 17) rfl) rfl
theorem q_390 : Cond.methodLink RX5 129 yX1_canOperate ∈ zWs := qt_3 _ (List.mem_of_getElem? (i := 18) rfl) rfl
theorem q_391 : Cond.instanceMethod yX1_canOperate ∈ zWs := qt_3 _ (List.mem_of_getElem? (i := 19) rfl) rfl
theorem q_392 : Cond.selects RX1 yX1_canOperate yX1_canOperate ∈ zWs := qt_3 _ (List.mem_of_getElem? (i := 20) rfl) rfl
theorem q_393 : Cond.code yX1_canOperate cX1_canOperate 5 (some .boolean) ∈ zWs := qt_3 _ (List.mem_of_getElem? (i := 21) rfl) rfl
theorem q_394 : Cond.methodLink RX1 163 yX1_canLay ∈ zWs := qt_3 _ (List.mem_of_getElem? (i := 22) rfl) rfl
theorem q_395 : Cond.instanceMethod yX1_canLay ∈ zWs := qt_3 _ (List.mem_of_getElem? (i := 23) rfl) rfl
theorem q_396 : Cond.selects RX1 yX1_canLay yX1_canLay ∈ zWs := qt_3 _ (List.mem_of_getElem? (i := 24) rfl) rfl
theorem q_397 : Cond.code yX1_canLay cX1_canLay 5 (some .boolean) ∈ zWs := qt_3 _ (List.mem_of_getElem? (i := 25) rfl) rfl
theorem q_398 : Cond.fieldLink RX1 171 "StockLines$Land" "level" "[[I" ∈ zWs := qt_1 _ (List.mem_of_getElem? (i := 76) rfl) rfl
theorem q_399 : Cond.methodLink RX1 178 yX3_measure ∈ zWs := qt_3 _ (List.mem_of_getElem? (i := 27) rfl) rfl
theorem q_400 : Cond.methodLink RX1 184 yX3_reached ∈ zWs := qt_3 _ (List.mem_of_getElem? (i := 28) rfl) rfl
theorem q_401 : Cond.instanceMethod yX3_reached ∈ zWs := qt_3 _ (List.mem_of_getElem? (i := 29) rfl) rfl
theorem q_402 : Cond.selects RX3 yX3_reached yX3_reached ∈ zWs := qt_3 _ (List.mem_of_getElem? (i := 30) rfl) rfl
theorem q_403 : Cond.code yX3_reached cX3_reached 2 (some .boolean) ∈ zWs := qt_3 _ (List.mem_of_getElem? (i := 31) rfl) rfl
theorem q_404 : Cond.methodLink RX5 132 yX1_operateNext ∈ zWs := qt_3 _ (List.mem_of_getElem? (i := 32) rfl) rfl
theorem q_405 : Cond.instanceMethod yX1_operateNext ∈ zWs := qt_3 _ (List.mem_of_getElem? (i := 33) rfl) rfl
theorem q_406 : Cond.selects RX1 yX1_operateNext yX1_operateNext ∈ zWs := qt_3 _ (List.mem_of_getElem? (i := 34) rfl) rfl
theorem q_407 : Cond.code yX1_operateNext cX1_operateNext 7 (some .int) ∈ zWs := qt_3 _ (List.mem_of_getElem? (i := 35) rfl) rfl
theorem q_408 : Cond.fieldLink RX1 195 "StockLines$Company" "latest" "I" ∈ zWs := qt_1 _ (List.mem_of_getElem? (i := 107) rfl) rfl
theorem q_409 : Cond.methodLink RX1 187 yX2_setLevel ∈ zWs := qt_3 _ (List.mem_of_getElem? (i := 36) rfl) rfl
theorem q_410 : Cond.instanceMethod yX2_setLevel ∈ zWs := qt_3 _ (List.mem_of_getElem? (i := 37) rfl) rfl
theorem q_411 : Cond.selects RX2 yX2_setLevel yX2_setLevel ∈ zWs := qt_3 _ (List.mem_of_getElem? (i := 38) rfl) rfl
theorem q_412 : Cond.code yX2_setLevel cX2_setLevel 4 none ∈ zWs := qt_3 _ (List.mem_of_getElem? (i := 39) rfl) rfl
theorem q_413 : Cond.methodLink RX1 159 yX1_companyPays ∈ zWs := qt_3 _ (List.mem_of_getElem? (i := 40) rfl) rfl
theorem q_414 : Cond.instanceMethod yX1_companyPays ∈ zWs := qt_3 _ (List.mem_of_getElem? (i := 42) rfl) rfl
theorem q_415 : Cond.selects RX1 yX1_companyPays yX1_companyPays ∈ zWs := qp_1 _ (List.mem_of_getElem? (i := 8) rfl)
theorem q_416 : Cond.code yX1_companyPays cX1_companyPays 3 none ∈ zWs := qt_3 _ (List.mem_of_getElem? (i := 43) rfl) rfl
theorem q_417 : Cond.methodLink RX1 191 yX1_incomeOf ∈ zWs := qt_3 _ (List.mem_of_getElem? (i := 44) rfl) rfl
theorem q_418 : Cond.methodLink RX1 198 yX1_payOut ∈ zWs := qt_3 _ (List.mem_of_getElem? (i := 45) rfl) rfl
theorem q_419 : Cond.instanceMethod yX1_payOut ∈ zWs := qt_3 _ (List.mem_of_getElem? (i := 47) rfl) rfl
theorem q_420 : Cond.selects RX1 yX1_payOut yX1_payOut ∈ zWs := qp_1 _ (List.mem_of_getElem? (i := 9) rfl)
theorem q_421 : Cond.code yX1_payOut cX1_payOut 4 none ∈ zWs := qt_3 _ (List.mem_of_getElem? (i := 48) rfl) rfl
theorem q_422 : Cond.methodLink RX1 204 yX0_rise ∈ zWs := qt_3 _ (List.mem_of_getElem? (i := 53) rfl) rfl
theorem q_423 : Cond.instanceMethod yX0_rise ∈ zWs := qt_3 _ (List.mem_of_getElem? (i := 54) rfl) rfl
theorem q_424 : Cond.selects RX0 yX0_rise yX0_rise ∈ zWs := qt_3 _ (List.mem_of_getElem? (i := 55) rfl) rfl
theorem q_425 : Cond.code yX0_rise cX0_rise 1 none ∈ zWs := qt_3 _ (List.mem_of_getElem? (i := 56) rfl) rfl
theorem q_426 : Cond.methodLink RX1 201 yX1_payUpkeep ∈ zWs := qt_3 _ (List.mem_of_getElem? (i := 61) rfl) rfl
theorem q_427 : Cond.instanceMethod yX1_payUpkeep ∈ zWs := qt_3 _ (List.mem_of_getElem? (i := 63) rfl) rfl
theorem q_428 : Cond.selects RX1 yX1_payUpkeep yX1_payUpkeep ∈ zWs := qp_1 _ (List.mem_of_getElem? (i := 11) rfl)
theorem q_429 : Cond.code yX1_payUpkeep cX1_payUpkeep 5 none ∈ zWs := qt_3 _ (List.mem_of_getElem? (i := 64) rfl) rfl
theorem q_430 : Cond.methodLink RX1 207 yJ9_min_7cf53 ∈ zWs := qt_3 _ (List.mem_of_getElem? (i := 65) rfl) rfl
theorem q_431 : Cond.methodLink RX1 213 yX1_payRest ∈ zWs := qt_3 _ (List.mem_of_getElem? (i := 66) rfl) rfl
theorem q_432 : Cond.instanceMethod yX1_payRest ∈ zWs := qt_3 _ (List.mem_of_getElem? (i := 68) rfl) rfl
theorem q_433 : Cond.selects RX1 yX1_payRest yX1_payRest ∈ zWs := qp_1 _ (List.mem_of_getElem? (i := 12) rfl)
theorem q_434 : Cond.code yX1_payRest cX1_payRest 5 (some .int) ∈ zWs := qt_3 _ (List.mem_of_getElem? (i := 69) rfl) rfl
theorem q_435 : Cond.methodLink RX1 216 yX1_cheapestHeld ∈ zWs := qt_3 _ (List.mem_of_getElem? (i := 70) rfl) rfl
theorem q_436 : Cond.instanceMethod yX1_cheapestHeld ∈ zWs := qt_3 _ (List.mem_of_getElem? (i := 72) rfl) rfl
theorem q_437 : Cond.selects RX1 yX1_cheapestHeld yX1_cheapestHeld ∈ zWs := qp_1 _ (List.mem_of_getElem? (i := 13) rfl)
theorem q_438 : Cond.code yX1_cheapestHeld cX1_cheapestHeld 5 (some .int) ∈ zWs := qt_3 _ (List.mem_of_getElem? (i := 73) rfl) rfl
theorem q_439 : Cond.methodLink RX1 219 yX1_sellShares ∈ zWs := qt_3 _ (List.mem_of_getElem? (i := 74) rfl) rfl
theorem q_440 : Cond.methodLink RX1 150 yX1_endOperatingIfOver ∈ zWs := qt_3 _ (List.mem_of_getElem? (i := 6) rfl) rfl
theorem q_441 : Cond.instanceMethod yX1_endOperatingIfOver ∈ zWs := qt_3 _ (List.mem_of_getElem? (i := 8) rfl) rfl
theorem q_442 : Cond.selects RX1 yX1_endOperatingIfOver yX1_endOperatingIfOver ∈ zWs := qp_1 _ (List.mem_of_getElem? (i := 7) rfl)
theorem q_443 : Cond.code yX1_endOperatingIfOver cX1_endOperatingIfOver 1 none ∈ zWs := qt_3 _ (List.mem_of_getElem? (i := 9) rfl) rfl
theorem q_444 : Cond.methodLink RL 116 yL_players ∈ zWs := qt_3 _ (List.mem_of_getElem? (i := 83) rfl) rfl
theorem q_445 : Cond.static yL_players ∈ zWs := qt_3 _ (List.mem_of_getElem? (i := 84) rfl) rfl
theorem q_446 : Cond.codeWith yL_players cL_players 4 (some .int) [(0, 6, 7, 22), (0, 6, 11, 15)] ∈ zWs := qt_3 _ (List.mem_of_getElem? (i := 85) rfl) rfl
theorem q_447 : Cond.methodLink RL 52 yX5_player ∈ zWs := qt_3 _ (List.mem_of_getElem? (i := 86) rfl) rfl
theorem q_448 : Cond.methodLink RL 119 yL_companies ∈ zWs := qt_3 _ (List.mem_of_getElem? (i := 183) rfl) rfl
theorem q_449 : Cond.static yL_companies ∈ zWs := qt_3 _ (List.mem_of_getElem? (i := 184) rfl) rfl
theorem q_450 : Cond.codeWith yL_companies cL_companies 4 (some .int) [(0, 6, 7, 22), (0, 6, 11, 15)] ∈ zWs := qt_3 _ (List.mem_of_getElem? (i := 185) rfl) rfl
theorem q_451 : Cond.methodLink RL 55 yX5_company ∈ zWs := qt_3 _ (List.mem_of_getElem? (i := 186) rfl) rfl
theorem q_452 : Cond.methodLink RL 122 yL_tracks ∈ zWs := qt_3 _ (List.mem_of_getElem? (i := 187) rfl) rfl
theorem q_453 : Cond.static yL_tracks ∈ zWs := qt_3 _ (List.mem_of_getElem? (i := 188) rfl) rfl
theorem q_454 : Cond.codeWith yL_tracks cL_tracks 4 (some .int) [(0, 6, 7, 22)] ∈ zWs := qt_3 _ (List.mem_of_getElem? (i := 189) rfl) rfl
theorem q_455 : Cond.methodLink RL 58 yX5_track ∈ zWs := qt_3 _ (List.mem_of_getElem? (i := 190) rfl) rfl
theorem q_456 : Cond.methodLink RL 125 yL_towns ∈ zWs := qt_3 _ (List.mem_of_getElem? (i := 91) rfl) rfl
theorem q_457 : Cond.static yL_towns ∈ zWs := qt_3 _ (List.mem_of_getElem? (i := 92) rfl) rfl
theorem q_458 : Cond.codeWith yL_towns cL_towns 3 (some .int) [(0, 5, 6, 22)] ∈ zWs := qt_3 _ (List.mem_of_getElem? (i := 93) rfl) rfl
theorem q_459 : Cond.methodLink RL 64 yX5_town ∈ zWs := qt_3 _ (List.mem_of_getElem? (i := 94) rfl) rfl
theorem q_460 : Cond.methodLink RL 128 yL_routes ∈ zWs := qt_3 _ (List.mem_of_getElem? (i := 191) rfl) rfl
theorem q_461 : Cond.static yL_routes ∈ zWs := qt_3 _ (List.mem_of_getElem? (i := 192) rfl) rfl
theorem q_462 : Cond.codeWith yL_routes cL_routes 4 (some .int) [(0, 6, 7, 22)] ∈ zWs := qt_3 _ (List.mem_of_getElem? (i := 193) rfl) rfl
theorem q_463 : Cond.methodLink RL 67 yX5_route ∈ zWs := qt_3 _ (List.mem_of_getElem? (i := 194) rfl) rfl
theorem q_464 : Cond.instanceMethod yX5_route ∈ zWs := qt_3 _ (List.mem_of_getElem? (i := 195) rfl) rfl
theorem q_465 : Cond.selects RX5 yX5_route yX5_route ∈ zWs := qt_3 _ (List.mem_of_getElem? (i := 196) rfl) rfl
theorem q_466 : Cond.code yX5_route cX5_route 3 (some .int) ∈ zWs := qt_3 _ (List.mem_of_getElem? (i := 197) rfl) rfl
theorem q_467 : Cond.methodLink RX5 163 yX1_routeTown ∈ zWs := qt_3 _ (List.mem_of_getElem? (i := 198) rfl) rfl
theorem q_468 : Cond.instanceMethod yX1_routeTown ∈ zWs := qt_3 _ (List.mem_of_getElem? (i := 199) rfl) rfl
theorem q_469 : Cond.selects RX1 yX1_routeTown yX1_routeTown ∈ zWs := qt_3 _ (List.mem_of_getElem? (i := 200) rfl) rfl
theorem q_470 : Cond.code yX1_routeTown cX1_routeTown 3 (some .int) ∈ zWs := qt_3 _ (List.mem_of_getElem? (i := 201) rfl) rfl
theorem q_471 : Cond.methodLink RX1 233 yX3_routeTown ∈ zWs := qt_3 _ (List.mem_of_getElem? (i := 202) rfl) rfl
theorem q_472 : Cond.instanceMethod yX3_routeTown ∈ zWs := qt_3 _ (List.mem_of_getElem? (i := 203) rfl) rfl
theorem q_473 : Cond.selects RX3 yX3_routeTown yX3_routeTown ∈ zWs := qt_3 _ (List.mem_of_getElem? (i := 204) rfl) rfl
theorem q_474 : Cond.code yX3_routeTown cX3_routeTown 2 (some .int) ∈ zWs := qt_3 _ (List.mem_of_getElem? (i := 205) rfl) rfl
theorem q_475 : Cond.methodLink RL 131 yL_withTrack ∈ zWs := qt_3 _ (List.mem_of_getElem? (i := 206) rfl) rfl
theorem q_476 : Cond.static yL_withTrack ∈ zWs := qt_3 _ (List.mem_of_getElem? (i := 207) rfl) rfl
theorem q_477 : Cond.codeWith yL_withTrack cL_withTrack 5 (some .int) [(0, 7, 8, 22), (0, 7, 13, 15)] ∈ zWs := qt_3 _ (List.mem_of_getElem? (i := 208) rfl) rfl
theorem q_478 : Cond.methodLink RL 70 yX5_incomeWith ∈ zWs := qt_3 _ (List.mem_of_getElem? (i := 209) rfl) rfl
theorem q_479 : Cond.instanceMethod yX5_incomeWith ∈ zWs := qt_3 _ (List.mem_of_getElem? (i := 210) rfl) rfl
theorem q_480 : Cond.selects RX5 yX5_incomeWith yX5_incomeWith ∈ zWs := qt_3 _ (List.mem_of_getElem? (i := 211) rfl) rfl
theorem q_481 : Cond.code yX5_incomeWith cX5_incomeWith 5 (some .int) ∈ zWs := qt_3 _ (List.mem_of_getElem? (i := 212) rfl) rfl
theorem q_482 : Cond.methodLink RX5 167 yX1_incomeIfRaised ∈ zWs := qt_3 _ (List.mem_of_getElem? (i := 213) rfl) rfl
theorem q_483 : Cond.instanceMethod yX1_incomeIfRaised ∈ zWs := qt_3 _ (List.mem_of_getElem? (i := 214) rfl) rfl
theorem q_484 : Cond.selects RX1 yX1_incomeIfRaised yX1_incomeIfRaised ∈ zWs := qt_3 _ (List.mem_of_getElem? (i := 215) rfl) rfl
theorem q_485 : Cond.code yX1_incomeIfRaised cX1_incomeIfRaised 6 (some .int) ∈ zWs := qt_3 _ (List.mem_of_getElem? (i := 216) rfl) rfl
theorem q_486 : Cond.methodLink RL 134 yL_bestOf ∈ zWs := qt_3 _ (List.mem_of_getElem? (i := 217) rfl) rfl
theorem q_487 : Cond.static yL_bestOf ∈ zWs := qt_3 _ (List.mem_of_getElem? (i := 218) rfl) rfl
theorem q_488 : Cond.codeWith yL_bestOf cL_bestOf 3 (some .int) [(0, 5, 6, 22)] ∈ zWs := qt_3 _ (List.mem_of_getElem? (i := 219) rfl) rfl
theorem q_489 : Cond.methodLink RL 73 yX5_bestTrack ∈ zWs := qt_3 _ (List.mem_of_getElem? (i := 220) rfl) rfl
theorem q_490 : Cond.instanceMethod yX5_bestTrack ∈ zWs := qt_3 _ (List.mem_of_getElem? (i := 221) rfl) rfl
theorem q_491 : Cond.selects RX5 yX5_bestTrack yX5_bestTrack ∈ zWs := qt_3 _ (List.mem_of_getElem? (i := 222) rfl) rfl
theorem q_492 : Cond.code yX5_bestTrack cX5_bestTrack 2 (some .int) ∈ zWs := qt_3 _ (List.mem_of_getElem? (i := 223) rfl) rfl
theorem q_493 : Cond.methodLink RX5 171 yX1_bestTrackOf ∈ zWs := qt_3 _ (List.mem_of_getElem? (i := 224) rfl) rfl
theorem q_494 : Cond.instanceMethod yX1_bestTrackOf ∈ zWs := qt_3 _ (List.mem_of_getElem? (i := 225) rfl) rfl
theorem q_495 : Cond.selects RX1 yX1_bestTrackOf yX1_bestTrackOf ∈ zWs := qt_3 _ (List.mem_of_getElem? (i := 226) rfl) rfl
theorem q_496 : Cond.code yX1_bestTrackOf cX1_bestTrackOf 7 (some .int) ∈ zWs := qt_3 _ (List.mem_of_getElem? (i := 227) rfl) rfl
theorem q_497 : Cond.methodLink RX1 229 yX1_incomeIfRaised ∈ zWs := qt_3 _ (List.mem_of_getElem? (i := 228) rfl) rfl
theorem q_498 : Cond.methodLink RL 137 yL_dividends ∈ zWs := qt_3 _ (List.mem_of_getElem? (i := 229) rfl) rfl
theorem q_499 : Cond.static yL_dividends ∈ zWs := qt_3 _ (List.mem_of_getElem? (i := 230) rfl) rfl
theorem q_500 : Cond.codeWith yL_dividends cL_dividends 3 (some .int) [(0, 5, 6, 22)] ∈ zWs := qt_3 _ (List.mem_of_getElem? (i := 231) rfl) rfl
theorem q_501 : Cond.methodLink RL 76 yX5_dividend ∈ zWs := qt_3 _ (List.mem_of_getElem? (i := 232) rfl) rfl
theorem q_502 : Cond.instanceMethod yX5_dividend ∈ zWs := qt_3 _ (List.mem_of_getElem? (i := 233) rfl) rfl
theorem q_503 : Cond.selects RX5 yX5_dividend yX5_dividend ∈ zWs := qt_3 _ (List.mem_of_getElem? (i := 234) rfl) rfl
theorem q_504 : Cond.code yX5_dividend cX5_dividend 3 (some .int) ∈ zWs := qt_3 _ (List.mem_of_getElem? (i := 235) rfl) rfl
theorem q_505 : Cond.methodLink RL 140 yL_extendsOne ∈ zWs := qt_3 _ (List.mem_of_getElem? (i := 236) rfl) rfl
theorem q_506 : Cond.static yL_extendsOne ∈ zWs := qt_3 _ (List.mem_of_getElem? (i := 237) rfl) rfl
theorem q_507 : Cond.codeWith yL_extendsOne cL_extendsOne 2 (some .int) [(0, 4, 5, 29)] ∈ zWs := qt_3 _ (List.mem_of_getElem? (i := 238) rfl) rfl
theorem q_508 : Cond.methodLink RL 45 yX5_extend ∈ zWs := qt_3 _ (List.mem_of_getElem? (i := 239) rfl) rfl
theorem q_509 : Cond.instanceMethod yX5_extend ∈ zWs := qt_4 _ (List.mem_of_getElem? (i := 0) rfl) rfl
theorem q_510 : Cond.selects RX5 yX5_extend yX5_extend ∈ zWs := qt_4 _ (List.mem_of_getElem? (i := 1) rfl) rfl
theorem q_511 : Cond.code yX5_extend cX5_extend 1 (some .int) ∈ zWs := qt_4 _ (List.mem_of_getElem? (i := 2) rfl) rfl
theorem q_512 : Cond.methodLink RX5 121 yX1_canExtend ∈ zWs := qt_4 _ (List.mem_of_getElem? (i := 3) rfl) rfl
theorem q_513 : Cond.instanceMethod yX1_canExtend ∈ zWs := qt_4 _ (List.mem_of_getElem? (i := 4) rfl) rfl
theorem q_514 : Cond.selects RX1 yX1_canExtend yX1_canExtend ∈ zWs := qt_4 _ (List.mem_of_getElem? (i := 5) rfl) rfl
theorem q_515 : Cond.code yX1_canExtend cX1_canExtend 3 (some .boolean) ∈ zWs := qt_4 _ (List.mem_of_getElem? (i := 6) rfl) rfl
theorem q_516 : Cond.methodLink RX5 125 yX1_extendNext ∈ zWs := qt_4 _ (List.mem_of_getElem? (i := 7) rfl) rfl
theorem q_517 : Cond.instanceMethod yX1_extendNext ∈ zWs := qt_4 _ (List.mem_of_getElem? (i := 8) rfl) rfl
theorem q_518 : Cond.selects RX1 yX1_extendNext yX1_extendNext ∈ zWs := qt_4 _ (List.mem_of_getElem? (i := 9) rfl) rfl
theorem q_519 : Cond.code yX1_extendNext cX1_extendNext 3 (some .int) ∈ zWs := qt_4 _ (List.mem_of_getElem? (i := 10) rfl) rfl
theorem q_520 : Cond.methodLink RL 144 yL_passes ∈ zWs := qt_2 _ (List.mem_of_getElem? (i := 207) rfl) rfl
theorem q_521 : Cond.static yL_passes ∈ zWs := qt_2 _ (List.mem_of_getElem? (i := 208) rfl) rfl
theorem q_522 : Cond.codeWith yL_passes cL_passes 2 (some .int) [(0, 4, 5, 29)] ∈ zWs := qt_2 _ (List.mem_of_getElem? (i := 209) rfl) rfl
theorem q_523 : Cond.methodLink RL 41 yX5_pass ∈ zWs := qt_2 _ (List.mem_of_getElem? (i := 211) rfl) rfl
theorem q_524 : Cond.instanceMethod yX5_pass ∈ zWs := qt_2 _ (List.mem_of_getElem? (i := 212) rfl) rfl
theorem q_525 : Cond.selects RX5 yX5_pass yX5_pass ∈ zWs := qt_2 _ (List.mem_of_getElem? (i := 213) rfl) rfl
theorem q_526 : Cond.code yX5_pass cX5_pass 1 (some .int) ∈ zWs := qt_2 _ (List.mem_of_getElem? (i := 214) rfl) rfl
theorem q_527 : Cond.fieldLink RX5 114 "StockLines$Game" "operating" "Z" ∈ zWs := qt_1 _ (List.mem_of_getElem? (i := 159) rfl) rfl
theorem q_528 : Cond.methodLink RX5 118 yX1_passTurn ∈ zWs := qt_2 _ (List.mem_of_getElem? (i := 230) rfl) rfl
theorem q_529 : Cond.instanceMethod yX1_passTurn ∈ zWs := qt_2 _ (List.mem_of_getElem? (i := 231) rfl) rfl
theorem q_530 : Cond.selects RX1 yX1_passTurn yX1_passTurn ∈ zWs := qt_2 _ (List.mem_of_getElem? (i := 232) rfl) rfl
theorem q_531 : Cond.code yX1_passTurn cX1_passTurn 1 none ∈ zWs := qt_2 _ (List.mem_of_getElem? (i := 233) rfl) rfl
theorem q_532 : Cond.methodLink RX1 144 yX1_beginOperating ∈ zWs := qt_2 _ (List.mem_of_getElem? (i := 238) rfl) rfl
theorem q_533 : Cond.instanceMethod yX1_beginOperating ∈ zWs := qt_3 _ (List.mem_of_getElem? (i := 0) rfl) rfl
theorem q_534 : Cond.selects RX1 yX1_beginOperating yX1_beginOperating ∈ zWs := qp_1 _ (List.mem_of_getElem? (i := 5) rfl)
theorem q_535 : Cond.code yX1_beginOperating cX1_beginOperating 2 none ∈ zWs := qt_3 _ (List.mem_of_getElem? (i := 1) rfl) rfl
theorem q_536 : Cond.methodLink RX1 147 yX1_putInOrder ∈ zWs := qt_3 _ (List.mem_of_getElem? (i := 2) rfl) rfl
theorem q_537 : Cond.instanceMethod yX1_putInOrder ∈ zWs := qt_3 _ (List.mem_of_getElem? (i := 4) rfl) rfl
theorem q_538 : Cond.selects RX1 yX1_putInOrder yX1_putInOrder ∈ zWs := qp_1 _ (List.mem_of_getElem? (i := 6) rfl)
theorem q_539 : Cond.code yX1_putInOrder cX1_putInOrder 3 none ∈ zWs := qt_3 _ (List.mem_of_getElem? (i := 5) rfl) rfl
theorem q_540 : Cond.methodLink RL 179 yL_fits ∈ zWs := qt_4 _ (List.mem_of_getElem? (i := 11) rfl) rfl
theorem q_541 : Cond.static yL_fits ∈ zWs := qt_4 _ (List.mem_of_getElem? (i := 12) rfl) rfl
theorem q_542 : Cond.code yL_fits cL_fits 12 (some .boolean) ∈ zWs := qt_4 _ (List.mem_of_getElem? (i := 13) rfl) rfl
theorem q_543 : Cond.methodLink RL 147 yL_isRoute ∈ zWs := qt_4 _ (List.mem_of_getElem? (i := 14) rfl) rfl
theorem q_544 : Cond.static yL_isRoute ∈ zWs := qt_4 _ (List.mem_of_getElem? (i := 15) rfl) rfl
theorem q_545 : Cond.code yL_isRoute cL_isRoute 9 (some .boolean) ∈ zWs := qt_4 _ (List.mem_of_getElem? (i := 16) rfl) rfl
theorem q_546 : Cond.methodLink RL 151 yL_isBest ∈ zWs := qt_4 _ (List.mem_of_getElem? (i := 17) rfl) rfl
theorem q_547 : Cond.static yL_isBest ∈ zWs := qt_4 _ (List.mem_of_getElem? (i := 18) rfl) rfl
theorem q_548 : Cond.code yL_isBest cL_isBest 13 (some .boolean) ∈ zWs := qt_4 _ (List.mem_of_getElem? (i := 19) rfl) rfl
theorem q_549 : Cond.methodLink RL 154 yX5_leader ∈ zWs := qt_4 _ (List.mem_of_getElem? (i := 20) rfl) rfl
theorem q_550 : Cond.instanceMethod yX5_leader ∈ zWs := qt_4 _ (List.mem_of_getElem? (i := 21) rfl) rfl
theorem q_551 : Cond.selects RX5 yX5_leader yX5_leader ∈ zWs := qt_4 _ (List.mem_of_getElem? (i := 22) rfl) rfl
theorem q_552 : Cond.code yX5_leader cX5_leader 3 (some .int) ∈ zWs := qt_4 _ (List.mem_of_getElem? (i := 23) rfl) rfl
theorem q_553 : Cond.methodLink RL 157 yX5_unsold ∈ zWs := qt_4 _ (List.mem_of_getElem? (i := 24) rfl) rfl
theorem q_554 : Cond.instanceMethod yX5_unsold ∈ zWs := qt_4 _ (List.mem_of_getElem? (i := 25) rfl) rfl
theorem q_555 : Cond.selects RX5 yX5_unsold yX5_unsold ∈ zWs := qt_4 _ (List.mem_of_getElem? (i := 26) rfl) rfl
theorem q_556 : Cond.code yX5_unsold cX5_unsold 2 (some .double) ∈ zWs := qt_4 _ (List.mem_of_getElem? (i := 27) rfl) rfl
theorem q_557 : Cond.methodLink RX5 174 yX1_openCompanies ∈ zWs := qt_4 _ (List.mem_of_getElem? (i := 28) rfl) rfl
theorem q_558 : Cond.methodLink RX5 177 yX1_unsoldShares ∈ zWs := qt_4 _ (List.mem_of_getElem? (i := 29) rfl) rfl
theorem q_559 : Cond.instanceMethod yX1_unsoldShares ∈ zWs := qt_4 _ (List.mem_of_getElem? (i := 30) rfl) rfl
theorem q_560 : Cond.selects RX1 yX1_unsoldShares yX1_unsoldShares ∈ zWs := qt_4 _ (List.mem_of_getElem? (i := 31) rfl) rfl
theorem q_561 : Cond.code yX1_unsoldShares cX1_unsoldShares 3 (some .int) ∈ zWs := qt_4 _ (List.mem_of_getElem? (i := 32) rfl) rfl
theorem q_562 : Cond.methodLink RL 182 yL_cell ∈ zWs := qt_2 _ (List.mem_of_getElem? (i := 169) rfl) rfl
theorem q_563 : Cond.static yL_cell ∈ zWs := qt_2 _ (List.mem_of_getElem? (i := 170) rfl) rfl
theorem q_564 : Cond.code yL_cell cL_cell 3 (some .int) ∈ zWs := qt_2 _ (List.mem_of_getElem? (i := 171) rfl) rfl
theorem q_565 : Cond.constant RL 7 (916318735) ∈ zWs := qt_2 _ (List.mem_of_getElem? (i := 172) rfl) rfl
theorem q_566 : Cond.methodLink RL 161 yL_low ∈ zWs := qt_2 _ (List.mem_of_getElem? (i := 173) rfl) rfl
theorem q_567 : Cond.static yL_low ∈ zWs := qt_2 _ (List.mem_of_getElem? (i := 174) rfl) rfl
theorem q_568 : Cond.code yL_low cL_low 2 (some .int) ∈ zWs := qt_2 _ (List.mem_of_getElem? (i := 175) rfl) rfl
theorem q_569 : Cond.constant RL 8 (2147483647) ∈ zWs := qt_2 _ (List.mem_of_getElem? (i := 176) rfl) rfl
theorem q_570 : Cond.methodLink RL 187 yL_acts ∈ zWs := qt_4 _ (List.mem_of_getElem? (i := 36) rfl) rfl
theorem q_571 : Cond.static yL_acts ∈ zWs := qt_4 _ (List.mem_of_getElem? (i := 37) rfl) rfl
theorem q_572 : Cond.code yL_acts cL_acts 4 (some .int) ∈ zWs := qt_4 _ (List.mem_of_getElem? (i := 38) rfl) rfl
theorem q_573 : Cond.methodLink RL 170 yL_isOperated ∈ zWs := qt_4 _ (List.mem_of_getElem? (i := 39) rfl) rfl
theorem q_574 : Cond.static yL_isOperated ∈ zWs := qt_4 _ (List.mem_of_getElem? (i := 40) rfl) rfl
theorem q_575 : Cond.code yL_isOperated cL_isOperated 24 (some .boolean) ∈ zWs := qt_4 _ (List.mem_of_getElem? (i := 41) rfl) rfl
theorem q_576 : Cond.methodLink RL 164 yL_least ∈ zWs := qt_4 _ (List.mem_of_getElem? (i := 42) rfl) rfl
theorem q_577 : Cond.static yL_least ∈ zWs := qt_4 _ (List.mem_of_getElem? (i := 43) rfl) rfl
theorem q_578 : Cond.code yL_least cL_least 2 (some .int) ∈ zWs := qt_4 _ (List.mem_of_getElem? (i := 44) rfl) rfl
theorem q_579 : Cond.methodLink RL 190 yL_isForetold ∈ zWs := qt_4 _ (List.mem_of_getElem? (i := 33) rfl) rfl
theorem q_580 : Cond.static yL_isForetold ∈ zWs := qt_4 _ (List.mem_of_getElem? (i := 34) rfl) rfl
theorem q_581 : Cond.code yL_isForetold cL_isForetold 13 (some .boolean) ∈ zWs := qt_4 _ (List.mem_of_getElem? (i := 35) rfl) rfl
theorem qf_X0_0 : Cond.laysFinal RX0 "StockLines$Company" "held" "[I" ∈ zWs := qt_1 _ (List.mem_of_getElem? (i := 108) rfl) rfl
theorem qf_X0_1 : Cond.lays RX0 "StockLines$Company" "open" "Z" ∈ zWs := qt_1 _ (List.mem_of_getElem? (i := 110) rfl) rfl
theorem qf_X0_2 : Cond.lays RX0 "StockLines$Company" "home" "I" ∈ zWs := qt_1 _ (List.mem_of_getElem? (i := 112) rfl) rfl
theorem qf_X0_3 : Cond.lays RX0 "StockLines$Company" "cash" "I" ∈ zWs := qt_1 _ (List.mem_of_getElem? (i := 114) rfl) rfl
theorem qf_X0_4 : Cond.lays RX0 "StockLines$Company" "step" "I" ∈ zWs := qt_1 _ (List.mem_of_getElem? (i := 116) rfl) rfl
theorem qf_X0_5 : Cond.lays RX0 "StockLines$Company" "stops" "I" ∈ zWs := qt_1 _ (List.mem_of_getElem? (i := 118) rfl) rfl
theorem qf_X0_6 : Cond.lays RX0 "StockLines$Company" "president" "I" ∈ zWs := qt_1 _ (List.mem_of_getElem? (i := 120) rfl) rfl
theorem qf_X0_7 : Cond.lays RX0 "StockLines$Company" "latest" "I" ∈ zWs := qt_1 _ (List.mem_of_getElem? (i := 122) rfl) rfl
theorem inlX0 : ∀ w ∈ u_ws RX0 TX0 8, w ∈ zWs := by
  show ∀ w ∈ [Cond.laysFinal RX0 "StockLines$Company" "held" "[I", Cond.lays RX0 "StockLines$Company" "open" "Z", Cond.lays RX0 "StockLines$Company" "home" "I", Cond.lays RX0 "StockLines$Company" "cash" "I", Cond.lays RX0 "StockLines$Company" "step" "I", Cond.lays RX0 "StockLines$Company" "stops" "I", Cond.lays RX0 "StockLines$Company" "president" "I", Cond.lays RX0 "StockLines$Company" "latest" "I"], w ∈ zWs
  exact List.forall_mem_cons.mpr ⟨qf_X0_0, List.forall_mem_cons.mpr ⟨qf_X0_1, List.forall_mem_cons.mpr ⟨qf_X0_2, List.forall_mem_cons.mpr ⟨qf_X0_3, List.forall_mem_cons.mpr ⟨qf_X0_4, List.forall_mem_cons.mpr ⟨qf_X0_5, List.forall_mem_cons.mpr ⟨qf_X0_6, List.forall_mem_cons.mpr ⟨qf_X0_7, fun _ h => absurd h List.not_mem_nil⟩⟩⟩⟩⟩⟩⟩⟩
theorem qf_X1_0 : Cond.laysFinal RX1 "StockLines$Game" "search" "LStockLines$RouteSearch;" ∈ zWs := qt_1 _ (List.mem_of_getElem? (i := 164) rfl) rfl
theorem qf_X1_1 : Cond.laysFinal RX1 "StockLines$Game" "land" "LStockLines$Land;" ∈ zWs := qt_1 _ (List.mem_of_getElem? (i := 166) rfl) rfl
theorem qf_X1_2 : Cond.laysFinal RX1 "StockLines$Game" "companies" "[LStockLines$Company;" ∈ zWs := qt_1 _ (List.mem_of_getElem? (i := 168) rfl) rfl
theorem qf_X1_3 : Cond.laysFinal RX1 "StockLines$Game" "cash" "[I" ∈ zWs := qt_1 _ (List.mem_of_getElem? (i := 170) rfl) rfl
theorem qf_X1_4 : Cond.laysFinal RX1 "StockLines$Game" "order" "[I" ∈ zWs := qt_1 _ (List.mem_of_getElem? (i := 172) rfl) rfl
theorem qf_X1_5 : Cond.lays RX1 "StockLines$Game" "orderLength" "I" ∈ zWs := qt_1 _ (List.mem_of_getElem? (i := 174) rfl) rfl
theorem qf_X1_6 : Cond.lays RX1 "StockLines$Game" "orderPlace" "I" ∈ zWs := qt_1 _ (List.mem_of_getElem? (i := 176) rfl) rfl
theorem qf_X1_7 : Cond.lays RX1 "StockLines$Game" "extended" "Z" ∈ zWs := qt_1 _ (List.mem_of_getElem? (i := 178) rfl) rfl
theorem qf_X1_8 : Cond.lays RX1 "StockLines$Game" "players" "I" ∈ zWs := qt_1 _ (List.mem_of_getElem? (i := 180) rfl) rfl
theorem qf_X1_9 : Cond.lays RX1 "StockLines$Game" "turn" "I" ∈ zWs := qt_1 _ (List.mem_of_getElem? (i := 182) rfl) rfl
theorem qf_X1_10 : Cond.lays RX1 "StockLines$Game" "passed" "I" ∈ zWs := qt_1 _ (List.mem_of_getElem? (i := 184) rfl) rfl
theorem qf_X1_11 : Cond.lays RX1 "StockLines$Game" "operating" "Z" ∈ zWs := qt_1 _ (List.mem_of_getElem? (i := 186) rfl) rfl
theorem qf_X1_12 : Cond.lays RX1 "StockLines$Game" "phasesOver" "I" ∈ zWs := qt_1 _ (List.mem_of_getElem? (i := 188) rfl) rfl
theorem qf_X1_13 : Cond.lays RX1 "StockLines$Game" "bank" "I" ∈ zWs := qt_1 _ (List.mem_of_getElem? (i := 190) rfl) rfl
theorem qf_X1_14 : Cond.lays RX1 "StockLines$Game" "closed" "I" ∈ zWs := qt_1 _ (List.mem_of_getElem? (i := 192) rfl) rfl
theorem inlX1 : ∀ w ∈ u_ws RX1 TX1 15, w ∈ zWs := by
  show ∀ w ∈ [Cond.laysFinal RX1 "StockLines$Game" "search" "LStockLines$RouteSearch;", Cond.laysFinal RX1 "StockLines$Game" "land" "LStockLines$Land;", Cond.laysFinal RX1 "StockLines$Game" "companies" "[LStockLines$Company;", Cond.laysFinal RX1 "StockLines$Game" "cash" "[I", Cond.laysFinal RX1 "StockLines$Game" "order" "[I", Cond.lays RX1 "StockLines$Game" "orderLength" "I", Cond.lays RX1 "StockLines$Game" "orderPlace" "I", Cond.lays RX1 "StockLines$Game" "extended" "Z", Cond.lays RX1 "StockLines$Game" "players" "I", Cond.lays RX1 "StockLines$Game" "turn" "I", Cond.lays RX1 "StockLines$Game" "passed" "I", Cond.lays RX1 "StockLines$Game" "operating" "Z", Cond.lays RX1 "StockLines$Game" "phasesOver" "I", Cond.lays RX1 "StockLines$Game" "bank" "I", Cond.lays RX1 "StockLines$Game" "closed" "I"], w ∈ zWs
  exact List.forall_mem_cons.mpr ⟨qf_X1_0, List.forall_mem_cons.mpr ⟨qf_X1_1, List.forall_mem_cons.mpr ⟨qf_X1_2, List.forall_mem_cons.mpr ⟨qf_X1_3, List.forall_mem_cons.mpr ⟨qf_X1_4, List.forall_mem_cons.mpr ⟨qf_X1_5, List.forall_mem_cons.mpr ⟨qf_X1_6, List.forall_mem_cons.mpr ⟨qf_X1_7, List.forall_mem_cons.mpr ⟨qf_X1_8, List.forall_mem_cons.mpr ⟨qf_X1_9, List.forall_mem_cons.mpr ⟨qf_X1_10, List.forall_mem_cons.mpr ⟨qf_X1_11, List.forall_mem_cons.mpr ⟨qf_X1_12, List.forall_mem_cons.mpr ⟨qf_X1_13, List.forall_mem_cons.mpr ⟨qf_X1_14, fun _ h => absurd h List.not_mem_nil⟩⟩⟩⟩⟩⟩⟩⟩⟩⟩⟩⟩⟩⟩⟩
theorem qf_X2_0 : Cond.laysFinal RX2 "StockLines$Land" "worth" "[I" ∈ zWs := qt_1 _ (List.mem_of_getElem? (i := 77) rfl) rfl
theorem qf_X2_1 : Cond.laysFinal RX2 "StockLines$Land" "level" "[[I" ∈ zWs := qt_1 _ (List.mem_of_getElem? (i := 79) rfl) rfl
theorem inlX2 : ∀ w ∈ u_ws RX2 TX2 2, w ∈ zWs := by
  show ∀ w ∈ [Cond.laysFinal RX2 "StockLines$Land" "worth" "[I", Cond.laysFinal RX2 "StockLines$Land" "level" "[[I"], w ∈ zWs
  exact List.forall_mem_cons.mpr ⟨qf_X2_0, List.forall_mem_cons.mpr ⟨qf_X2_1, fun _ h => absurd h List.not_mem_nil⟩⟩
theorem qf_X3_0 : Cond.laysFinal RX3 "StockLines$RouteSearch" "distance" "[I" ∈ zWs := qt_1 _ (List.mem_of_getElem? (i := 38) rfl) rfl
theorem qf_X3_1 : Cond.laysFinal RX3 "StockLines$RouteSearch" "row" "[I" ∈ zWs := qt_1 _ (List.mem_of_getElem? (i := 40) rfl) rfl
theorem qf_X3_2 : Cond.laysFinal RX3 "StockLines$RouteSearch" "best" "[I" ∈ zWs := qt_1 _ (List.mem_of_getElem? (i := 42) rfl) rfl
theorem qf_X3_3 : Cond.lays RX3 "StockLines$RouteSearch" "land" "LStockLines$Land;" ∈ zWs := qt_1 _ (List.mem_of_getElem? (i := 44) rfl) rfl
theorem qf_X3_4 : Cond.lays RX3 "StockLines$RouteSearch" "homeBit" "I" ∈ zWs := qt_1 _ (List.mem_of_getElem? (i := 46) rfl) rfl
theorem qf_X3_5 : Cond.lays RX3 "StockLines$RouteSearch" "stops" "I" ∈ zWs := qt_1 _ (List.mem_of_getElem? (i := 48) rfl) rfl
theorem qf_X3_6 : Cond.lays RX3 "StockLines$RouteSearch" "bestLength" "I" ∈ zWs := qt_1 _ (List.mem_of_getElem? (i := 50) rfl) rfl
theorem qf_X3_7 : Cond.lays RX3 "StockLines$RouteSearch" "bestIncome" "I" ∈ zWs := qt_1 _ (List.mem_of_getElem? (i := 52) rfl) rfl
theorem inlX3 : ∀ w ∈ u_ws RX3 TX3 8, w ∈ zWs := by
  show ∀ w ∈ [Cond.laysFinal RX3 "StockLines$RouteSearch" "distance" "[I", Cond.laysFinal RX3 "StockLines$RouteSearch" "row" "[I", Cond.laysFinal RX3 "StockLines$RouteSearch" "best" "[I", Cond.lays RX3 "StockLines$RouteSearch" "land" "LStockLines$Land;", Cond.lays RX3 "StockLines$RouteSearch" "homeBit" "I", Cond.lays RX3 "StockLines$RouteSearch" "stops" "I", Cond.lays RX3 "StockLines$RouteSearch" "bestLength" "I", Cond.lays RX3 "StockLines$RouteSearch" "bestIncome" "I"], w ∈ zWs
  exact List.forall_mem_cons.mpr ⟨qf_X3_0, List.forall_mem_cons.mpr ⟨qf_X3_1, List.forall_mem_cons.mpr ⟨qf_X3_2, List.forall_mem_cons.mpr ⟨qf_X3_3, List.forall_mem_cons.mpr ⟨qf_X3_4, List.forall_mem_cons.mpr ⟨qf_X3_5, List.forall_mem_cons.mpr ⟨qf_X3_6, List.forall_mem_cons.mpr ⟨qf_X3_7, fun _ h => absurd h List.not_mem_nil⟩⟩⟩⟩⟩⟩⟩⟩
theorem qf_X4_0 : Cond.laysFinal RX4 "StockLines$Script" "signs" "[I" ∈ zWs := qt_1 _ (List.mem_of_getElem? (i := 204) rfl) rfl
theorem qf_X4_1 : Cond.lays RX4 "StockLines$Script" "length" "I" ∈ zWs := qt_1 _ (List.mem_of_getElem? (i := 206) rfl) rfl
theorem inlX4 : ∀ w ∈ u_ws RX4 TX4 2, w ∈ zWs := by
  show ∀ w ∈ [Cond.laysFinal RX4 "StockLines$Script" "signs" "[I", Cond.lays RX4 "StockLines$Script" "length" "I"], w ∈ zWs
  exact List.forall_mem_cons.mpr ⟨qf_X4_0, List.forall_mem_cons.mpr ⟨qf_X4_1, fun _ h => absurd h List.not_mem_nil⟩⟩
theorem qf_X5_0 : Cond.laysFinal RX5 "StockLines" "game" "LStockLines$Game;" ∈ zWs := qt_1 _ (List.mem_of_getElem? (i := 213) rfl) rfl
theorem qf_X5_1 : Cond.laysFinal RX5 "StockLines" "saved" "[LStockLines$Game;" ∈ zWs := qt_1 _ (List.mem_of_getElem? (i := 215) rfl) rfl
theorem qf_X5_2 : Cond.lays RX5 "StockLines" "savedCount" "I" ∈ zWs := qt_1 _ (List.mem_of_getElem? (i := 217) rfl) rfl
theorem qf_X5_3 : Cond.laysFinal RX5 "StockLines" "script" "LStockLines$Script;" ∈ zWs := qt_1 _ (List.mem_of_getElem? (i := 219) rfl) rfl
theorem inlX5 : ∀ w ∈ u_ws RX5 TX5 4, w ∈ zWs := by
  show ∀ w ∈ [Cond.laysFinal RX5 "StockLines" "game" "LStockLines$Game;", Cond.laysFinal RX5 "StockLines" "saved" "[LStockLines$Game;", Cond.lays RX5 "StockLines" "savedCount" "I", Cond.laysFinal RX5 "StockLines" "script" "LStockLines$Script;"], w ∈ zWs
  exact List.forall_mem_cons.mpr ⟨qf_X5_0, List.forall_mem_cons.mpr ⟨qf_X5_1, List.forall_mem_cons.mpr ⟨qf_X5_2, List.forall_mem_cons.mpr ⟨qf_X5_3, fun _ h => absurd h List.not_mem_nil⟩⟩⟩⟩
