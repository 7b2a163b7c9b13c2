/-! the words: those of the tables that stay true by themselves -/
def zWs : List Cond := lw_tbl.filter goodWord
theorem zWs_in : ∀ w ∈ zWs, w ∈ lw_tbl := fun w h => (List.mem_filter.mp h).1
theorem qt_1 : ∀ w ∈ tables_1_1, goodWord w = true → w ∈ zWs := fun _ h g => List.mem_filter.mpr ⟨List.mem_append_right _ (List.mem_append_left _ h), g⟩
theorem qt_2 : ∀ w ∈ tables_1_2, goodWord w = true → w ∈ zWs := fun _ h g => List.mem_filter.mpr ⟨List.mem_append_right _ (List.mem_append_right _ (List.mem_append_left _ h)), g⟩
theorem qt_3 : ∀ w ∈ tables_1_3, goodWord w = true → w ∈ zWs := fun _ h g => List.mem_filter.mpr ⟨List.mem_append_right _ (List.mem_append_right _ (List.mem_append_right _ (List.mem_append_left _ h))), g⟩
theorem qt_4 : ∀ w ∈ tables_1_4, goodWord w = true → w ∈ zWs := fun _ h g => List.mem_filter.mpr ⟨List.mem_append_right _ (List.mem_append_right _ (List.mem_append_right _ (List.mem_append_right _ (List.mem_append_left _ h)))), g⟩
theorem qt_5 : ∀ w ∈ tables_1_5, goodWord w = true → w ∈ zWs := fun _ h g => List.mem_filter.mpr ⟨List.mem_append_right _ (List.mem_append_right _ (List.mem_append_right _ (List.mem_append_right _ (List.mem_append_right _ (h))))), g⟩
theorem qp_1 : ∀ q ∈ lw_privs_1, Cond.selects q.1.cls q.1 q.1 ∈ zWs := fun q h => List.mem_filter.mpr ⟨List.mem_append_left _ (List.mem_map.mpr ⟨q, List.mem_append_left _ h, rfl⟩), rfl⟩
theorem qp_2 : ∀ q ∈ lw_privs_2, Cond.selects q.1.cls q.1 q.1 ∈ zWs := fun q h => List.mem_filter.mpr ⟨List.mem_append_left _ (List.mem_map.mpr ⟨q, List.mem_append_right _ (List.mem_append_left _ h), rfl⟩), rfl⟩
theorem qp_3 : ∀ q ∈ lw_privs_3, Cond.selects q.1.cls q.1 q.1 ∈ zWs := fun q h => List.mem_filter.mpr ⟨List.mem_append_left _ (List.mem_map.mpr ⟨q, List.mem_append_right _ (List.mem_append_right _ (List.mem_append_left _ h)), rfl⟩), rfl⟩
theorem qp_4 : ∀ q ∈ lw_privs_4, Cond.selects q.1.cls q.1 q.1 ∈ zWs := fun q h => List.mem_filter.mpr ⟨List.mem_append_left _ (List.mem_map.mpr ⟨q, List.mem_append_right _ (List.mem_append_right _ (List.mem_append_right _ (List.mem_append_left _ h))), rfl⟩), rfl⟩
theorem qp_5 : ∀ q ∈ lw_privs_5, Cond.selects q.1.cls q.1 q.1 ∈ zWs := fun q h => List.mem_filter.mpr ⟨List.mem_append_left _ (List.mem_map.mpr ⟨q, List.mem_append_right _ (List.mem_append_right _ (List.mem_append_right _ (List.mem_append_right _ (h)))), rfl⟩), rfl⟩
theorem q_0 : Cond.classLink RL 8 RX5 ∈ zWs := qt_1 _ (List.mem_of_getElem? (i := 17) rfl) rfl
theorem q_1 : Cond.instantiable RX5 4 ∈ zWs := qt_1 _ (List.mem_of_getElem? (i := 18) rfl) rfl
theorem q_2 : Cond.initialized RX5 ∈ zWs := qt_1 _ (List.mem_of_getElem? (i := 1) rfl) rfl
theorem q_3 : Cond.classLink RL 81 RX6 ∈ zWs := qt_4 _ (List.mem_of_getElem? (i := 61) rfl) rfl
theorem q_4 : Cond.instantiable RX6 17 ∈ zWs := qt_4 _ (List.mem_of_getElem? (i := 62) rfl) rfl
theorem q_5 : Cond.initialized RX6 ∈ zWs := qt_1 _ (List.mem_of_getElem? (i := 8) rfl) rfl
theorem q_6 : Cond.arrayClass .long ∈ zWs := qt_5 _ (List.mem_of_getElem? (i := 225) rfl) rfl
theorem q_7 : Cond.methodLink RL 80 yX5_init ∈ zWs := qt_1 _ (List.mem_of_getElem? (i := 19) rfl) rfl
theorem q_8 : Cond.instanceMethod yX5_init ∈ zWs := qt_1 _ (List.mem_of_getElem? (i := 20) rfl) rfl
theorem q_9 : Cond.code yX5_init cX5_init 3 none ∈ zWs := qt_1 _ (List.mem_of_getElem? (i := 21) rfl) rfl
theorem q_10 : Cond.methodLink RX5 1 objectInit ∈ zWs := qt_1 _ (List.mem_of_getElem? (i := 22) rfl) rfl
theorem q_11 : Cond.instanceMethod objectInit ∈ zWs := qt_1 _ (List.mem_of_getElem? (i := 23) rfl) rfl
theorem q_12 : Cond.code objectInit ⟨#[0xb1]⟩ 1 none ∈ zWs := qt_1 _ (List.mem_of_getElem? (i := 24) rfl) rfl
theorem q_13 : Cond.classLink RX5 7 RX3 ∈ zWs := qt_1 _ (List.mem_of_getElem? (i := 25) rfl) rfl
theorem q_14 : Cond.instantiable RX3 8 ∈ zWs := qt_1 _ (List.mem_of_getElem? (i := 26) rfl) rfl
theorem q_15 : Cond.initialized RX3 ∈ zWs := qt_1 _ (List.mem_of_getElem? (i := 2) rfl) rfl
theorem q_16 : Cond.classLink RX5 10 RX1 ∈ zWs := qt_1 _ (List.mem_of_getElem? (i := 57) rfl) rfl
theorem q_17 : Cond.instantiable RX1 15 ∈ zWs := qt_1 _ (List.mem_of_getElem? (i := 58) rfl) rfl
theorem q_18 : Cond.initialized RX1 ∈ zWs := qt_1 _ (List.mem_of_getElem? (i := 3) rfl) rfl
theorem q_19 : Cond.fieldLink RX5 15 "StockLines" "game" "LStockLines$Game;" ∈ zWs := qt_1 _ (List.mem_of_getElem? (i := 211) rfl) rfl
theorem q_20 : Cond.fieldLink RX5 21 "StockLines" "saved" "[LStockLines$Game;" ∈ zWs := qt_1 _ (List.mem_of_getElem? (i := 212) rfl) rfl
theorem q_21 : Cond.fieldLink RX5 25 "StockLines" "savedCount" "I" ∈ zWs := qt_1 _ (List.mem_of_getElem? (i := 213) rfl) rfl
theorem q_22 : Cond.classLink RX5 29 RX4 ∈ zWs := qt_1 _ (List.mem_of_getElem? (i := 197) rfl) rfl
theorem q_23 : Cond.instantiable RX4 2 ∈ zWs := qt_1 _ (List.mem_of_getElem? (i := 198) rfl) rfl
theorem q_24 : Cond.initialized RX4 ∈ zWs := qt_1 _ (List.mem_of_getElem? (i := 7) rfl) rfl
theorem q_25 : Cond.fieldLink RX5 32 "StockLines" "script" "LStockLines$Script;" ∈ zWs := qt_1 _ (List.mem_of_getElem? (i := 214) rfl) rfl
theorem q_26 : Cond.instanceMethod yX3_init ∈ zWs := qt_1 _ (List.mem_of_getElem? (i := 28) rfl) rfl
theorem q_27 : Cond.code yX3_init cX3_init 1 none ∈ zWs := qt_1 _ (List.mem_of_getElem? (i := 29) rfl) rfl
theorem q_28 : Cond.methodLink RX3 3 objectInit ∈ zWs := qt_1 _ (List.mem_of_getElem? (i := 30) rfl) rfl
theorem q_29 : Cond.arrayClass .int ∈ zWs := qt_1 _ (List.mem_of_getElem? (i := 56) rfl) rfl
theorem q_30 : Cond.fieldLink RX3 9 "StockLines$RouteSearch" "distance" "[I" ∈ zWs := qt_1 _ (List.mem_of_getElem? (i := 31) rfl) rfl
theorem q_31 : Cond.fieldLink RX3 15 "StockLines$RouteSearch" "row" "[I" ∈ zWs := qt_1 _ (List.mem_of_getElem? (i := 32) rfl) rfl
theorem q_32 : Cond.fieldLink RX3 18 "StockLines$RouteSearch" "best" "[I" ∈ zWs := qt_1 _ (List.mem_of_getElem? (i := 33) rfl) rfl
theorem q_33 : Cond.methodLink RX5 12 yX1_init ∈ zWs := qt_1 _ (List.mem_of_getElem? (i := 59) rfl) rfl
theorem q_34 : Cond.instanceMethod yX1_init ∈ zWs := qt_1 _ (List.mem_of_getElem? (i := 60) rfl) rfl
theorem q_35 : Cond.code yX1_init cX1_init 3 none ∈ zWs := qt_1 _ (List.mem_of_getElem? (i := 61) rfl) rfl
theorem q_36 : Cond.methodLink RX1 3 objectInit ∈ zWs := qt_1 _ (List.mem_of_getElem? (i := 62) rfl) rfl
theorem q_37 : Cond.classLink RX1 9 RX2 ∈ zWs := qt_1 _ (List.mem_of_getElem? (i := 63) rfl) rfl
theorem q_38 : Cond.instantiable RX2 2 ∈ zWs := qt_1 _ (List.mem_of_getElem? (i := 64) rfl) rfl
theorem q_39 : Cond.initialized RX2 ∈ zWs := qt_1 _ (List.mem_of_getElem? (i := 4) rfl) rfl
theorem q_40 : Cond.fieldLink RX1 12 "StockLines$Game" "land" "LStockLines$Land;" ∈ zWs := qt_1 _ (List.mem_of_getElem? (i := 144) rfl) rfl
theorem q_41 : Cond.classLink RX1 18 RX0 ∈ zWs := qt_1 _ (List.mem_of_getElem? (i := 83) rfl) rfl
theorem q_42 : Cond.fieldLink RX1 20 "StockLines$Game" "companies" "[LStockLines$Company;" ∈ zWs := qt_1 _ (List.mem_of_getElem? (i := 146) rfl) rfl
theorem q_43 : Cond.fieldLink RX1 24 "StockLines$Game" "cash" "[I" ∈ zWs := qt_1 _ (List.mem_of_getElem? (i := 148) rfl) rfl
theorem q_44 : Cond.fieldLink RX1 28 "StockLines$Game" "order" "[I" ∈ zWs := qt_1 _ (List.mem_of_getElem? (i := 150) rfl) rfl
theorem q_45 : Cond.fieldLink RX1 31 "StockLines$Game" "search" "LStockLines$RouteSearch;" ∈ zWs := qt_1 _ (List.mem_of_getElem? (i := 143) rfl) rfl
theorem q_46 : Cond.instantiable RX0 8 ∈ zWs := qt_1 _ (List.mem_of_getElem? (i := 85) rfl) rfl
theorem q_47 : Cond.initialized RX0 ∈ zWs := qt_1 _ (List.mem_of_getElem? (i := 5) rfl) rfl
theorem q_48 : Cond.methodLink RX1 11 yX2_init ∈ zWs := qt_1 _ (List.mem_of_getElem? (i := 65) rfl) rfl
theorem q_49 : Cond.instanceMethod yX2_init ∈ zWs := qt_1 _ (List.mem_of_getElem? (i := 66) rfl) rfl
theorem q_50 : Cond.code yX2_init cX2_init 2 none ∈ zWs := qt_1 _ (List.mem_of_getElem? (i := 67) rfl) rfl
theorem q_51 : Cond.methodLink RX2 3 objectInit ∈ zWs := qt_1 _ (List.mem_of_getElem? (i := 68) rfl) rfl
theorem q_52 : Cond.fieldLink RX2 9 "StockLines$Land" "worth" "[I" ∈ zWs := qt_1 _ (List.mem_of_getElem? (i := 71) rfl) rfl
theorem q_53 : Cond.classLink RX2 15 "[[I" ∈ zWs := qt_1 _ (List.mem_of_getElem? (i := 69) rfl) rfl
theorem q_54 : Cond.fieldLink RX2 17 "StockLines$Land" "level" "[[I" ∈ zWs := qt_1 _ (List.mem_of_getElem? (i := 74) rfl) rfl
theorem q_55 : Cond.instanceMethod yX0_init ∈ zWs := qt_1 _ (List.mem_of_getElem? (i := 87) rfl) rfl
theorem q_56 : Cond.code yX0_init cX0_init 1 none ∈ zWs := qt_1 _ (List.mem_of_getElem? (i := 88) rfl) rfl
theorem q_57 : Cond.methodLink RX0 3 objectInit ∈ zWs := qt_1 _ (List.mem_of_getElem? (i := 89) rfl) rfl
theorem q_58 : Cond.fieldLink RX0 9 "StockLines$Company" "held" "[I" ∈ zWs := qt_1 _ (List.mem_of_getElem? (i := 90) rfl) rfl
theorem q_59 : Cond.methodLink RX1 36 yX1_reset ∈ zWs := qt_1 _ (List.mem_of_getElem? (i := 126) rfl) rfl
theorem q_60 : Cond.instanceMethod yX1_reset ∈ zWs := qt_1 _ (List.mem_of_getElem? (i := 127) rfl) rfl
theorem q_61 : Cond.selects RX1 yX1_reset yX1_reset ∈ zWs := qt_1 _ (List.mem_of_getElem? (i := 128) rfl) rfl
theorem q_62 : Cond.code yX1_reset cX1_reset 3 none ∈ zWs := qt_1 _ (List.mem_of_getElem? (i := 129) rfl) rfl
theorem q_63 : Cond.fieldLink RX1 52 "StockLines$Game" "orderLength" "I" ∈ zWs := qt_1 _ (List.mem_of_getElem? (i := 151) rfl) rfl
theorem q_64 : Cond.fieldLink RX1 56 "StockLines$Game" "orderPlace" "I" ∈ zWs := qt_1 _ (List.mem_of_getElem? (i := 152) rfl) rfl
theorem q_65 : Cond.fieldLink RX1 59 "StockLines$Game" "extended" "Z" ∈ zWs := qt_1 _ (List.mem_of_getElem? (i := 153) rfl) rfl
theorem q_66 : Cond.fieldLink RX1 63 "StockLines$Game" "players" "I" ∈ zWs := qt_1 _ (List.mem_of_getElem? (i := 154) rfl) rfl
theorem q_67 : Cond.fieldLink RX1 66 "StockLines$Game" "turn" "I" ∈ zWs := qt_1 _ (List.mem_of_getElem? (i := 156) rfl) rfl
theorem q_68 : Cond.fieldLink RX1 69 "StockLines$Game" "passed" "I" ∈ zWs := qt_1 _ (List.mem_of_getElem? (i := 158) rfl) rfl
theorem q_69 : Cond.fieldLink RX1 72 "StockLines$Game" "operating" "Z" ∈ zWs := qt_1 _ (List.mem_of_getElem? (i := 159) rfl) rfl
theorem q_70 : Cond.fieldLink RX1 75 "StockLines$Game" "phasesOver" "I" ∈ zWs := qt_1 _ (List.mem_of_getElem? (i := 162) rfl) rfl
theorem q_71 : Cond.fieldLink RX1 78 "StockLines$Game" "bank" "I" ∈ zWs := qt_1 _ (List.mem_of_getElem? (i := 163) rfl) rfl
theorem q_72 : Cond.fieldLink RX1 81 "StockLines$Game" "closed" "I" ∈ zWs := qt_1 _ (List.mem_of_getElem? (i := 164) rfl) rfl
theorem q_73 : Cond.methodLink RX1 40 yX2_clearTracks ∈ zWs := qt_1 _ (List.mem_of_getElem? (i := 130) rfl) rfl
theorem q_74 : Cond.instanceMethod yX2_clearTracks ∈ zWs := qt_1 _ (List.mem_of_getElem? (i := 131) rfl) rfl
theorem q_75 : Cond.selects RX2 yX2_clearTracks yX2_clearTracks ∈ zWs := qt_1 _ (List.mem_of_getElem? (i := 132) rfl) rfl
theorem q_76 : Cond.code yX2_clearTracks cX2_clearTracks 2 none ∈ zWs := qt_1 _ (List.mem_of_getElem? (i := 133) rfl) rfl
theorem q_77 : Cond.methodLink RX2 20 yJ7_fill_53178 ∈ zWs := qt_1 _ (List.mem_of_getElem? (i := 134) rfl) rfl
theorem q_78 : Cond.static yJ7_fill_53178 ∈ zWs := qt_1 _ (List.mem_of_getElem? (i := 135) rfl) rfl
theorem q_79 : Cond.initialized RJ7 ∈ zWs := qt_1 _ (List.mem_of_getElem? (i := 6) rfl) rfl
theorem q_80 : Cond.code yJ7_fill_53178 cJ7_fill_53178 4 none ∈ zWs := qt_1 _ (List.mem_of_getElem? (i := 136) rfl) rfl
theorem q_81 : Cond.methodLink RX1 43 yX0_close ∈ zWs := qt_1 _ (List.mem_of_getElem? (i := 137) rfl) rfl
theorem q_82 : Cond.instanceMethod yX0_close ∈ zWs := qt_1 _ (List.mem_of_getElem? (i := 138) rfl) rfl
theorem q_83 : Cond.selects RX0 yX0_close yX0_close ∈ zWs := qt_1 _ (List.mem_of_getElem? (i := 139) rfl) rfl
theorem q_84 : Cond.code yX0_close cX0_close 1 none ∈ zWs := qt_1 _ (List.mem_of_getElem? (i := 140) rfl) rfl
theorem q_85 : Cond.fieldLink RX0 23 "StockLines$Company" "open" "Z" ∈ zWs := qt_1 _ (List.mem_of_getElem? (i := 93) rfl) rfl
theorem q_86 : Cond.fieldLink RX0 27 "StockLines$Company" "home" "I" ∈ zWs := qt_1 _ (List.mem_of_getElem? (i := 96) rfl) rfl
theorem q_87 : Cond.fieldLink RX0 39 "StockLines$Company" "cash" "I" ∈ zWs := qt_1 _ (List.mem_of_getElem? (i := 99) rfl) rfl
theorem q_88 : Cond.fieldLink RX0 15 "StockLines$Company" "step" "I" ∈ zWs := qt_1 _ (List.mem_of_getElem? (i := 101) rfl) rfl
theorem q_89 : Cond.fieldLink RX0 30 "StockLines$Company" "stops" "I" ∈ zWs := qt_1 _ (List.mem_of_getElem? (i := 103) rfl) rfl
theorem q_90 : Cond.fieldLink RX0 42 "StockLines$Company" "president" "I" ∈ zWs := qt_1 _ (List.mem_of_getElem? (i := 105) rfl) rfl
theorem q_91 : Cond.fieldLink RX0 45 "StockLines$Company" "latest" "I" ∈ zWs := qt_1 _ (List.mem_of_getElem? (i := 107) rfl) rfl
theorem q_92 : Cond.methodLink RX0 33 yJ7_fill_53178 ∈ zWs := qt_1 _ (List.mem_of_getElem? (i := 141) rfl) rfl
theorem q_93 : Cond.methodLink RX1 46 yJ7_fill_53178 ∈ zWs := qt_1 _ (List.mem_of_getElem? (i := 142) rfl) rfl
theorem q_94 : Cond.instanceMethod yX4_init ∈ zWs := qt_1 _ (List.mem_of_getElem? (i := 200) rfl) rfl
theorem q_95 : Cond.code yX4_init cX4_init 1 none ∈ zWs := qt_1 _ (List.mem_of_getElem? (i := 201) rfl) rfl
theorem q_96 : Cond.methodLink RX4 3 objectInit ∈ zWs := qt_1 _ (List.mem_of_getElem? (i := 202) rfl) rfl
theorem q_97 : Cond.fieldLink RX4 9 "StockLines$Script" "signs" "[I" ∈ zWs := qt_1 _ (List.mem_of_getElem? (i := 203) rfl) rfl
theorem q_98 : Cond.methodLink RL 83 yX6_init ∈ zWs := qt_4 _ (List.mem_of_getElem? (i := 63) rfl) rfl
theorem q_99 : Cond.instanceMethod yX6_init ∈ zWs := qt_4 _ (List.mem_of_getElem? (i := 64) rfl) rfl
theorem q_100 : Cond.code yX6_init cX6_init 2 none ∈ zWs := qt_4 _ (List.mem_of_getElem? (i := 65) rfl) rfl
theorem q_101 : Cond.methodLink RX6 1 objectInit ∈ zWs := qt_4 _ (List.mem_of_getElem? (i := 66) rfl) rfl
theorem q_102 : Cond.fieldLink RX6 7 "StockLinesModel" "now" "[I" ∈ zWs := qt_4 _ (List.mem_of_getElem? (i := 71) rfl) rfl
theorem q_103 : Cond.fieldLink RX6 13 "StockLinesModel" "past" "[I" ∈ zWs := qt_4 _ (List.mem_of_getElem? (i := 72) rfl) rfl
theorem q_104 : Cond.fieldLink RX6 16 "StockLinesModel" "text" "[I" ∈ zWs := qt_4 _ (List.mem_of_getElem? (i := 74) rfl) rfl
theorem q_105 : Cond.fieldLink RX6 19 "StockLinesModel" "path" "[I" ∈ zWs := qt_4 _ (List.mem_of_getElem? (i := 77) rfl) rfl
theorem q_106 : Cond.fieldLink RX6 22 "StockLinesModel" "sums" "[I" ∈ zWs := qt_4 _ (List.mem_of_getElem? (i := 78) rfl) rfl
theorem q_107 : Cond.fieldLink RX6 25 "StockLinesModel" "taken" "[I" ∈ zWs := qt_4 _ (List.mem_of_getElem? (i := 79) rfl) rfl
theorem q_108 : Cond.fieldLink RX6 28 "StockLinesModel" "best" "[I" ∈ zWs := qt_4 _ (List.mem_of_getElem? (i := 80) rfl) rfl
theorem q_109 : Cond.methodLink RX6 31 yX6_begins ∈ zWs := qt_4 _ (List.mem_of_getElem? (i := 67) rfl) rfl
theorem q_110 : Cond.instanceMethod yX6_begins ∈ zWs := qt_4 _ (List.mem_of_getElem? (i := 69) rfl) rfl
theorem q_111 : Cond.selects RX6 yX6_begins yX6_begins ∈ zWs := qp_2 _ (List.mem_of_getElem? (i := 0) rfl)
theorem q_112 : Cond.code yX6_begins cX6_begins 3 none ∈ zWs := qt_4 _ (List.mem_of_getElem? (i := 70) rfl) rfl
theorem q_113 : Cond.methodLink RL 84 yL_begin ∈ zWs := qt_3 _ (List.mem_of_getElem? (i := 104) rfl) rfl
theorem q_114 : Cond.static yL_begin ∈ zWs := qt_3 _ (List.mem_of_getElem? (i := 105) rfl) rfl
theorem q_115 : Cond.initialized RL ∈ zWs := qt_1 _ (List.mem_of_getElem? (i := 0) rfl) rfl
theorem q_116 : Cond.codeWith yL_begin cL_begin 4 (some .int) [(0, 9, 12, 13)] ∈ zWs := qt_3 _ (List.mem_of_getElem? (i := 106) rfl) rfl
theorem q_117 : Cond.classLink RL 13 "java/lang/IllegalArgumentException" ∈ zWs := qt_3 _ (List.mem_of_getElem? (i := 107) rfl) rfl
theorem q_118 : Cond.methodLink RL 7 yX5_begin ∈ zWs := qt_3 _ (List.mem_of_getElem? (i := 108) rfl) rfl
theorem q_119 : Cond.instanceMethod yX5_begin ∈ zWs := qt_3 _ (List.mem_of_getElem? (i := 109) rfl) rfl
theorem q_120 : Cond.selects RX5 yX5_begin yX5_begin ∈ zWs := qt_3 _ (List.mem_of_getElem? (i := 110) rfl) rfl
theorem q_121 : Cond.code yX5_begin cX5_begin 3 (some .int) ∈ zWs := qt_3 _ (List.mem_of_getElem? (i := 111) rfl) rfl
theorem q_122 : Cond.classLink RX5 36 "java/lang/IllegalArgumentException" ∈ zWs := qt_2 _ (List.mem_of_getElem? (i := 229) rfl) rfl
theorem q_123 : Cond.initialized "java/lang/IllegalArgumentException" ∈ zWs := qt_1 _ (List.mem_of_getElem? (i := 12) rfl) rfl
theorem q_124 : Cond.fieldLink RX5 42 "StockLines$Game" "phasesOver" "I" ∈ zWs := qt_1 _ (List.mem_of_getElem? (i := 161) rfl) rfl
theorem q_125 : Cond.methodLink RX5 39 yX5_saveState ∈ zWs := qt_2 _ (List.mem_of_getElem? (i := 40) rfl) rfl
theorem q_126 : Cond.instanceMethod yX5_saveState ∈ zWs := qt_2 _ (List.mem_of_getElem? (i := 42) rfl) rfl
theorem q_127 : Cond.selects RX5 yX5_saveState yX5_saveState ∈ zWs := qp_1 _ (List.mem_of_getElem? (i := 0) rfl)
theorem q_128 : Cond.code yX5_saveState cX5_saveState 3 none ∈ zWs := qt_2 _ (List.mem_of_getElem? (i := 43) rfl) rfl
theorem q_129 : Cond.methodLink RX5 195 yX1_copyFrom ∈ zWs := qt_2 _ (List.mem_of_getElem? (i := 44) rfl) rfl
theorem q_130 : Cond.instanceMethod yX1_copyFrom ∈ zWs := qt_2 _ (List.mem_of_getElem? (i := 45) rfl) rfl
theorem q_131 : Cond.selects RX1 yX1_copyFrom yX1_copyFrom ∈ zWs := qt_2 _ (List.mem_of_getElem? (i := 46) rfl) rfl
theorem q_132 : Cond.code yX1_copyFrom cX1_copyFrom 3 none ∈ zWs := qt_2 _ (List.mem_of_getElem? (i := 47) rfl) rfl
theorem q_133 : Cond.methodLink RX1 91 arraycopyName ∈ zWs := qt_2 _ (List.mem_of_getElem? (i := 60) rfl) rfl
theorem q_134 : Cond.native arraycopyName ∈ zWs := qt_2 _ (List.mem_of_getElem? (i := 54) rfl) rfl
theorem q_135 : Cond.static arraycopyName ∈ zWs := qt_2 _ (List.mem_of_getElem? (i := 53) rfl) rfl
theorem q_136 : Cond.initialized "java/lang/System" ∈ zWs := qt_1 _ (List.mem_of_getElem? (i := 13) rfl) rfl
theorem q_137 : Cond.methodLink RX1 84 yX2_copyFrom ∈ zWs := qt_2 _ (List.mem_of_getElem? (i := 48) rfl) rfl
theorem q_138 : Cond.instanceMethod yX2_copyFrom ∈ zWs := qt_2 _ (List.mem_of_getElem? (i := 49) rfl) rfl
theorem q_139 : Cond.selects RX2 yX2_copyFrom yX2_copyFrom ∈ zWs := qt_2 _ (List.mem_of_getElem? (i := 50) rfl) rfl
theorem q_140 : Cond.code yX2_copyFrom cX2_copyFrom 3 none ∈ zWs := qt_2 _ (List.mem_of_getElem? (i := 51) rfl) rfl
theorem q_141 : Cond.methodLink RX2 26 arraycopyName ∈ zWs := qt_2 _ (List.mem_of_getElem? (i := 52) rfl) rfl
theorem q_142 : Cond.methodLink RX1 88 yX0_copyFrom ∈ zWs := qt_2 _ (List.mem_of_getElem? (i := 55) rfl) rfl
theorem q_143 : Cond.instanceMethod yX0_copyFrom ∈ zWs := qt_2 _ (List.mem_of_getElem? (i := 56) rfl) rfl
theorem q_144 : Cond.selects RX0 yX0_copyFrom yX0_copyFrom ∈ zWs := qt_2 _ (List.mem_of_getElem? (i := 57) rfl) rfl
theorem q_145 : Cond.code yX0_copyFrom cX0_copyFrom 2 none ∈ zWs := qt_2 _ (List.mem_of_getElem? (i := 58) rfl) rfl
theorem q_146 : Cond.methodLink RX0 48 arraycopyName ∈ zWs := qt_2 _ (List.mem_of_getElem? (i := 59) rfl) rfl
theorem q_147 : Cond.methodLink RX5 45 yX1_reset ∈ zWs := qt_3 _ (List.mem_of_getElem? (i := 112) rfl) rfl
theorem q_148 : Cond.methodLink RL 89 yX6_begin ∈ zWs := qt_4 _ (List.mem_of_getElem? (i := 135) rfl) rfl
theorem q_149 : Cond.instanceMethod yX6_begin ∈ zWs := qt_4 _ (List.mem_of_getElem? (i := 136) rfl) rfl
theorem q_150 : Cond.selects RX6 yX6_begin yX6_begin ∈ zWs := qt_4 _ (List.mem_of_getElem? (i := 137) rfl) rfl
theorem q_151 : Cond.code yX6_begin cX6_begin 3 (some .int) ∈ zWs := qt_4 _ (List.mem_of_getElem? (i := 138) rfl) rfl
theorem q_152 : Cond.methodLink RX6 46 yX6_in ∈ zWs := qt_4 _ (List.mem_of_getElem? (i := 139) rfl) rfl
theorem q_153 : Cond.static yX6_in ∈ zWs := qt_4 _ (List.mem_of_getElem? (i := 140) rfl) rfl
theorem q_154 : Cond.code yX6_in cX6_in 3 (some .boolean) ∈ zWs := qt_4 _ (List.mem_of_getElem? (i := 141) rfl) rfl
theorem q_155 : Cond.methodLink RX6 42 yX6_refused ∈ zWs := qt_4 _ (List.mem_of_getElem? (i := 131) rfl) rfl
theorem q_156 : Cond.instanceMethod yX6_refused ∈ zWs := qt_4 _ (List.mem_of_getElem? (i := 133) rfl) rfl
theorem q_157 : Cond.selects RX6 yX6_refused yX6_refused ∈ zWs := qp_2 _ (List.mem_of_getElem? (i := 1) rfl)
theorem q_158 : Cond.code yX6_refused cX6_refused 2 (some .boolean) ∈ zWs := qt_4 _ (List.mem_of_getElem? (i := 134) rfl) rfl
theorem q_159 : Cond.fieldLink RX6 35 "StockLinesModel" "refusal" "I" ∈ zWs := qt_4 _ (List.mem_of_getElem? (i := 76) rfl) rfl
theorem q_160 : Cond.methodLink RX6 60 yX6_saves ∈ zWs := qt_4 _ (List.mem_of_getElem? (i := 142) rfl) rfl
theorem q_161 : Cond.instanceMethod yX6_saves ∈ zWs := qt_4 _ (List.mem_of_getElem? (i := 144) rfl) rfl
theorem q_162 : Cond.selects RX6 yX6_saves yX6_saves ∈ zWs := qp_2 _ (List.mem_of_getElem? (i := 2) rfl)
theorem q_163 : Cond.code yX6_saves cX6_saves 2 none ∈ zWs := qt_4 _ (List.mem_of_getElem? (i := 145) rfl) rfl
theorem q_164 : Cond.fieldLink RX6 39 "StockLinesModel" "saved" "I" ∈ zWs := qt_4 _ (List.mem_of_getElem? (i := 73) rfl) rfl
theorem q_165 : Cond.methodLink RL 90 yX6_thrown ∈ zWs := qt_4 _ (List.mem_of_getElem? (i := 123) rfl) rfl
theorem q_166 : Cond.instanceMethod yX6_thrown ∈ zWs := qt_4 _ (List.mem_of_getElem? (i := 124) rfl) rfl
theorem q_167 : Cond.selects RX6 yX6_thrown yX6_thrown ∈ zWs := qt_4 _ (List.mem_of_getElem? (i := 125) rfl) rfl
theorem q_168 : Cond.code yX6_thrown cX6_thrown 1 (some .int) ∈ zWs := qt_4 _ (List.mem_of_getElem? (i := 126) rfl) rfl
theorem q_169 : Cond.methodLink RL 93 yL_setTown ∈ zWs := qt_3 _ (List.mem_of_getElem? (i := 113) rfl) rfl
theorem q_170 : Cond.static yL_setTown ∈ zWs := qt_3 _ (List.mem_of_getElem? (i := 114) rfl) rfl
theorem q_171 : Cond.codeWith yL_setTown cL_setTown 5 (some .int) [(0, 10, 13, 19), (0, 10, 17, 13)] ∈ zWs := qt_3 _ (List.mem_of_getElem? (i := 115) rfl) rfl
theorem q_172 : Cond.classLink RL 19 "java/lang/IndexOutOfBoundsException" ∈ zWs := qt_3 _ (List.mem_of_getElem? (i := 116) rfl) rfl
theorem q_173 : Cond.methodLink RL 15 yX5_setTown ∈ zWs := qt_3 _ (List.mem_of_getElem? (i := 117) rfl) rfl
theorem q_174 : Cond.instanceMethod yX5_setTown ∈ zWs := qt_3 _ (List.mem_of_getElem? (i := 118) rfl) rfl
theorem q_175 : Cond.selects RX5 yX5_setTown yX5_setTown ∈ zWs := qt_3 _ (List.mem_of_getElem? (i := 119) rfl) rfl
theorem q_176 : Cond.code yX5_setTown cX5_setTown 4 (some .int) ∈ zWs := qt_3 _ (List.mem_of_getElem? (i := 120) rfl) rfl
theorem q_177 : Cond.classLink RX5 53 "java/lang/IndexOutOfBoundsException" ∈ zWs := qt_3 _ (List.mem_of_getElem? (i := 65) rfl) rfl
theorem q_178 : Cond.initialized "java/lang/IndexOutOfBoundsException" ∈ zWs := qt_1 _ (List.mem_of_getElem? (i := 14) rfl) rfl
theorem q_179 : Cond.fieldLink RX5 56 "StockLines$Game" "land" "LStockLines$Land;" ∈ zWs := qt_1 _ (List.mem_of_getElem? (i := 145) rfl) rfl
theorem q_180 : Cond.fieldLink RX5 60 "StockLines$Land" "worth" "[I" ∈ zWs := qt_1 _ (List.mem_of_getElem? (i := 72) rfl) rfl
theorem q_181 : Cond.methodLink RX5 49 yX5_isTown ∈ zWs := qt_3 _ (List.mem_of_getElem? (i := 99) rfl) rfl
theorem q_182 : Cond.static yX5_isTown ∈ zWs := qt_2 _ (List.mem_of_getElem? (i := 139) rfl) rfl
theorem q_183 : Cond.code yX5_isTown cX5_isTown 1 (some .boolean) ∈ zWs := qt_2 _ (List.mem_of_getElem? (i := 140) rfl) rfl
theorem q_184 : Cond.methodLink RL 96 yX6_setTown ∈ zWs := qt_4 _ (List.mem_of_getElem? (i := 146) rfl) rfl
theorem q_185 : Cond.instanceMethod yX6_setTown ∈ zWs := qt_4 _ (List.mem_of_getElem? (i := 147) rfl) rfl
theorem q_186 : Cond.selects RX6 yX6_setTown yX6_setTown ∈ zWs := qt_4 _ (List.mem_of_getElem? (i := 148) rfl) rfl
theorem q_187 : Cond.code yX6_setTown cX6_setTown 4 (some .int) ∈ zWs := qt_4 _ (List.mem_of_getElem? (i := 149) rfl) rfl
theorem q_188 : Cond.methodLink RX6 63 yX6_isTown ∈ zWs := qt_4 _ (List.mem_of_getElem? (i := 150) rfl) rfl
theorem q_189 : Cond.static yX6_isTown ∈ zWs := qt_4 _ (List.mem_of_getElem? (i := 151) rfl) rfl
theorem q_190 : Cond.code yX6_isTown cX6_isTown 1 (some .boolean) ∈ zWs := qt_4 _ (List.mem_of_getElem? (i := 152) rfl) rfl
theorem q_191 : Cond.methodLink RL 97 yL_start ∈ zWs := qt_3 _ (List.mem_of_getElem? (i := 121) rfl) rfl
theorem q_192 : Cond.static yL_start ∈ zWs := qt_3 _ (List.mem_of_getElem? (i := 122) rfl) rfl
theorem q_193 : Cond.codeWith yL_start cL_start 6 (some .int) [(0, 12, 15, 19), (0, 12, 19, 13), (0, 12, 23, 25)] ∈ zWs := qt_3 _ (List.mem_of_getElem? (i := 123) rfl) rfl
theorem q_194 : Cond.classLink RL 25 "java/lang/IllegalStateException" ∈ zWs := qt_3 _ (List.mem_of_getElem? (i := 124) rfl) rfl
theorem q_195 : Cond.methodLink RL 21 yX5_start ∈ zWs := qt_3 _ (List.mem_of_getElem? (i := 125) rfl) rfl
theorem q_196 : Cond.instanceMethod yX5_start ∈ zWs := qt_3 _ (List.mem_of_getElem? (i := 126) rfl) rfl
theorem q_197 : Cond.selects RX5 yX5_start yX5_start ∈ zWs := qt_3 _ (List.mem_of_getElem? (i := 127) rfl) rfl
theorem q_198 : Cond.code yX5_start cX5_start 4 (some .int) ∈ zWs := qt_3 _ (List.mem_of_getElem? (i := 128) rfl) rfl
theorem q_199 : Cond.classLink RX5 73 "java/lang/IllegalStateException" ∈ zWs := qt_3 _ (List.mem_of_getElem? (i := 133) rfl) rfl
theorem q_200 : Cond.initialized "java/lang/IllegalStateException" ∈ zWs := qt_1 _ (List.mem_of_getElem? (i := 15) rfl) rfl
theorem q_201 : Cond.fieldLink RX5 80 "StockLines$Game" "companies" "[LStockLines$Company;" ∈ zWs := qt_1 _ (List.mem_of_getElem? (i := 147) rfl) rfl
theorem q_202 : Cond.fieldLink RX5 84 "StockLines$Company" "cash" "I" ∈ zWs := qt_1 _ (List.mem_of_getElem? (i := 98) rfl) rfl
theorem q_203 : Cond.methodLink RX5 66 yX5_isCompany ∈ zWs := qt_2 _ (List.mem_of_getElem? (i := 70) rfl) rfl
theorem q_204 : Cond.static yX5_isCompany ∈ zWs := qt_2 _ (List.mem_of_getElem? (i := 71) rfl) rfl
theorem q_205 : Cond.code yX5_isCompany cX5_isCompany 1 (some .boolean) ∈ zWs := qt_2 _ (List.mem_of_getElem? (i := 72) rfl) rfl
theorem q_206 : Cond.methodLink RX5 69 yX1_canStart ∈ zWs := qt_3 _ (List.mem_of_getElem? (i := 129) rfl) rfl
theorem q_207 : Cond.instanceMethod yX1_canStart ∈ zWs := qt_3 _ (List.mem_of_getElem? (i := 130) rfl) rfl
theorem q_208 : Cond.selects RX1 yX1_canStart yX1_canStart ∈ zWs := qt_3 _ (List.mem_of_getElem? (i := 131) rfl) rfl
theorem q_209 : Cond.code yX1_canStart cX1_canStart 3 (some .boolean) ∈ zWs := qt_3 _ (List.mem_of_getElem? (i := 132) rfl) rfl
theorem q_210 : Cond.fieldLink RX1 97 "StockLines$Company" "open" "Z" ∈ zWs := qt_1 _ (List.mem_of_getElem? (i := 94) rfl) rfl
theorem q_211 : Cond.methodLink RX1 100 yX0_priceAt ∈ zWs := qt_2 _ (List.mem_of_getElem? (i := 105) rfl) rfl
theorem q_212 : Cond.static yX0_priceAt ∈ zWs := qt_1 _ (List.mem_of_getElem? (i := 237) rfl) rfl
theorem q_213 : Cond.code yX0_priceAt cX0_priceAt 1 (some .int) ∈ zWs := qt_1 _ (List.mem_of_getElem? (i := 238) rfl) rfl
theorem q_214 : Cond.methodLink RX5 76 yX1_startCompany ∈ zWs := qt_3 _ (List.mem_of_getElem? (i := 148) rfl) rfl
theorem q_215 : Cond.instanceMethod yX1_startCompany ∈ zWs := qt_3 _ (List.mem_of_getElem? (i := 149) rfl) rfl
theorem q_216 : Cond.selects RX1 yX1_startCompany yX1_startCompany ∈ zWs := qt_3 _ (List.mem_of_getElem? (i := 150) rfl) rfl
theorem q_217 : Cond.code yX1_startCompany cX1_startCompany 6 none ∈ zWs := qt_3 _ (List.mem_of_getElem? (i := 151) rfl) rfl
theorem q_218 : Cond.fieldLink RX1 115 "StockLines$Company" "held" "[I" ∈ zWs := qt_1 _ (List.mem_of_getElem? (i := 91) rfl) rfl
theorem q_219 : Cond.fieldLink RX1 121 "StockLines$Company" "cash" "I" ∈ zWs := qt_1 _ (List.mem_of_getElem? (i := 100) rfl) rfl
theorem q_220 : Cond.methodLink RX1 104 yX0_openAt ∈ zWs := qt_3 _ (List.mem_of_getElem? (i := 152) rfl) rfl
theorem q_221 : Cond.instanceMethod yX0_openAt ∈ zWs := qt_3 _ (List.mem_of_getElem? (i := 153) rfl) rfl
theorem q_222 : Cond.selects RX0 yX0_openAt yX0_openAt ∈ zWs := qt_3 _ (List.mem_of_getElem? (i := 154) rfl) rfl
theorem q_223 : Cond.code yX0_openAt cX0_openAt 3 none ∈ zWs := qt_3 _ (List.mem_of_getElem? (i := 155) rfl) rfl
theorem q_224 : Cond.methodLink RX1 108 yX0_price ∈ zWs := qt_1 _ (List.mem_of_getElem? (i := 232) rfl) rfl
theorem q_225 : Cond.instanceMethod yX0_price ∈ zWs := qt_1 _ (List.mem_of_getElem? (i := 233) rfl) rfl
theorem q_226 : Cond.selects RX0 yX0_price yX0_price ∈ zWs := qt_1 _ (List.mem_of_getElem? (i := 234) rfl) rfl
theorem q_227 : Cond.code yX0_price cX0_price 1 (some .int) ∈ zWs := qt_1 _ (List.mem_of_getElem? (i := 235) rfl) rfl
theorem q_228 : Cond.methodLink RX0 19 yX0_priceAt ∈ zWs := qt_1 _ (List.mem_of_getElem? (i := 236) rfl) rfl
theorem q_229 : Cond.methodLink RX1 112 yX1_playerPays ∈ zWs := qt_2 _ (List.mem_of_getElem? (i := 81) rfl) rfl
theorem q_230 : Cond.instanceMethod yX1_playerPays ∈ zWs := qt_2 _ (List.mem_of_getElem? (i := 83) rfl) rfl
theorem q_231 : Cond.selects RX1 yX1_playerPays yX1_playerPays ∈ zWs := qp_1 _ (List.mem_of_getElem? (i := 2) rfl)
theorem q_232 : Cond.code yX1_playerPays cX1_playerPays 3 none ∈ zWs := qt_2 _ (List.mem_of_getElem? (i := 84) rfl) rfl
theorem q_233 : Cond.methodLink RX1 118 yX0_findPresident ∈ zWs := qt_2 _ (List.mem_of_getElem? (i := 85) rfl) rfl
theorem q_234 : Cond.instanceMethod yX0_findPresident ∈ zWs := qt_2 _ (List.mem_of_getElem? (i := 86) rfl) rfl
theorem q_235 : Cond.selects RX0 yX0_findPresident yX0_findPresident ∈ zWs := qt_2 _ (List.mem_of_getElem? (i := 87) rfl) rfl
theorem q_236 : Cond.code yX0_findPresident cX0_findPresident 4 none ∈ zWs := qt_2 _ (List.mem_of_getElem? (i := 88) rfl) rfl
theorem q_237 : Cond.methodLink RX1 123 yX1_endActiveTurn ∈ zWs := qt_2 _ (List.mem_of_getElem? (i := 89) rfl) rfl
theorem q_238 : Cond.instanceMethod yX1_endActiveTurn ∈ zWs := qt_2 _ (List.mem_of_getElem? (i := 91) rfl) rfl
theorem q_239 : Cond.selects RX1 yX1_endActiveTurn yX1_endActiveTurn ∈ zWs := qp_1 _ (List.mem_of_getElem? (i := 3) rfl)
theorem q_240 : Cond.code yX1_endActiveTurn cX1_endActiveTurn 1 none ∈ zWs := qt_2 _ (List.mem_of_getElem? (i := 92) rfl) rfl
theorem q_241 : Cond.methodLink RX1 141 yX1_nextTurn ∈ zWs := qt_2 _ (List.mem_of_getElem? (i := 93) rfl) rfl
theorem q_242 : Cond.instanceMethod yX1_nextTurn ∈ zWs := qt_2 _ (List.mem_of_getElem? (i := 95) rfl) rfl
theorem q_243 : Cond.selects RX1 yX1_nextTurn yX1_nextTurn ∈ zWs := qp_1 _ (List.mem_of_getElem? (i := 4) rfl)
theorem q_244 : Cond.code yX1_nextTurn cX1_nextTurn 1 none ∈ zWs := qt_2 _ (List.mem_of_getElem? (i := 96) rfl) rfl
theorem q_245 : Cond.methodLink RL 100 yX6_start ∈ zWs := qt_4 _ (List.mem_of_getElem? (i := 153) rfl) rfl
theorem q_246 : Cond.instanceMethod yX6_start ∈ zWs := qt_4 _ (List.mem_of_getElem? (i := 154) rfl) rfl
theorem q_247 : Cond.selects RX6 yX6_start yX6_start ∈ zWs := qt_4 _ (List.mem_of_getElem? (i := 155) rfl) rfl
theorem q_248 : Cond.code yX6_start cX6_start 6 (some .int) ∈ zWs := qt_4 _ (List.mem_of_getElem? (i := 156) rfl) rfl
theorem q_249 : Cond.methodLink RX6 69 yX6_isCompany ∈ zWs := qt_4 _ (List.mem_of_getElem? (i := 157) rfl) rfl
theorem q_250 : Cond.static yX6_isCompany ∈ zWs := qt_4 _ (List.mem_of_getElem? (i := 158) rfl) rfl
theorem q_251 : Cond.code yX6_isCompany cX6_isCompany 1 (some .boolean) ∈ zWs := qt_4 _ (List.mem_of_getElem? (i := 159) rfl) rfl
theorem q_252 : Cond.methodLink RX6 72 yX6_isStock ∈ zWs := qt_4 _ (List.mem_of_getElem? (i := 160) rfl) rfl
theorem q_253 : Cond.instanceMethod yX6_isStock ∈ zWs := qt_4 _ (List.mem_of_getElem? (i := 162) rfl) rfl
theorem q_254 : Cond.selects RX6 yX6_isStock yX6_isStock ∈ zWs := qp_2 _ (List.mem_of_getElem? (i := 3) rfl)
theorem q_255 : Cond.code yX6_isStock cX6_isStock 1 (some .boolean) ∈ zWs := qt_4 _ (List.mem_of_getElem? (i := 163) rfl) rfl
theorem q_256 : Cond.methodLink RX6 76 yX6_isOpen ∈ zWs := qt_4 _ (List.mem_of_getElem? (i := 164) rfl) rfl
theorem q_257 : Cond.instanceMethod yX6_isOpen ∈ zWs := qt_4 _ (List.mem_of_getElem? (i := 166) rfl) rfl
theorem q_258 : Cond.selects RX6 yX6_isOpen yX6_isOpen ∈ zWs := qp_2 _ (List.mem_of_getElem? (i := 4) rfl)
theorem q_259 : Cond.code yX6_isOpen cX6_isOpen 2 (some .boolean) ∈ zWs := qt_4 _ (List.mem_of_getElem? (i := 167) rfl) rfl
theorem q_260 : Cond.methodLink RX6 50 yX6_of ∈ zWs := qt_4 _ (List.mem_of_getElem? (i := 168) rfl) rfl
theorem q_261 : Cond.instanceMethod yX6_of ∈ zWs := qt_4 _ (List.mem_of_getElem? (i := 170) rfl) rfl
theorem q_262 : Cond.selects RX6 yX6_of yX6_of ∈ zWs := qp_2 _ (List.mem_of_getElem? (i := 5) rfl)
theorem q_263 : Cond.code yX6_of cX6_of 3 (some .int) ∈ zWs := qt_4 _ (List.mem_of_getElem? (i := 171) rfl) rfl
theorem q_264 : Cond.methodLink RX6 79 yX6_purse ∈ zWs := qt_4 _ (List.mem_of_getElem? (i := 172) rfl) rfl
theorem q_265 : Cond.instanceMethod yX6_purse ∈ zWs := qt_4 _ (List.mem_of_getElem? (i := 174) rfl) rfl
theorem q_266 : Cond.selects RX6 yX6_purse yX6_purse ∈ zWs := qp_2 _ (List.mem_of_getElem? (i := 6) rfl)
theorem q_267 : Cond.code yX6_purse cX6_purse 1 (some .int) ∈ zWs := qt_4 _ (List.mem_of_getElem? (i := 175) rfl) rfl
theorem q_268 : Cond.methodLink RX6 83 yX6_price ∈ zWs := qt_4 _ (List.mem_of_getElem? (i := 176) rfl) rfl
theorem q_269 : Cond.instanceMethod yX6_price ∈ zWs := qt_4 _ (List.mem_of_getElem? (i := 178) rfl) rfl
theorem q_270 : Cond.selects RX6 yX6_price yX6_price ∈ zWs := qp_2 _ (List.mem_of_getElem? (i := 7) rfl)
theorem q_271 : Cond.code yX6_price cX6_price 2 (some .int) ∈ zWs := qt_4 _ (List.mem_of_getElem? (i := 179) rfl) rfl
theorem q_272 : Cond.methodLink RX6 87 yX6_pays ∈ zWs := qt_4 _ (List.mem_of_getElem? (i := 180) rfl) rfl
theorem q_273 : Cond.instanceMethod yX6_pays ∈ zWs := qt_4 _ (List.mem_of_getElem? (i := 182) rfl) rfl
theorem q_274 : Cond.selects RX6 yX6_pays yX6_pays ∈ zWs := qp_2 _ (List.mem_of_getElem? (i := 8) rfl)
theorem q_275 : Cond.code yX6_pays cX6_pays 3 none ∈ zWs := qt_4 _ (List.mem_of_getElem? (i := 183) rfl) rfl
theorem q_276 : Cond.methodLink RX6 91 yX6_holds ∈ zWs := qt_4 _ (List.mem_of_getElem? (i := 184) rfl) rfl
theorem q_277 : Cond.instanceMethod yX6_holds ∈ zWs := qt_4 _ (List.mem_of_getElem? (i := 186) rfl) rfl
theorem q_278 : Cond.selects RX6 yX6_holds yX6_holds ∈ zWs := qp_2 _ (List.mem_of_getElem? (i := 9) rfl)
theorem q_279 : Cond.code yX6_holds cX6_holds 4 none ∈ zWs := qt_4 _ (List.mem_of_getElem? (i := 187) rfl) rfl
theorem q_280 : Cond.methodLink RX6 57 yX6_presides ∈ zWs := qt_4 _ (List.mem_of_getElem? (i := 188) rfl) rfl
theorem q_281 : Cond.instanceMethod yX6_presides ∈ zWs := qt_4 _ (List.mem_of_getElem? (i := 190) rfl) rfl
theorem q_282 : Cond.selects RX6 yX6_presides yX6_presides ∈ zWs := qp_2 _ (List.mem_of_getElem? (i := 10) rfl)
theorem q_283 : Cond.code yX6_presides cX6_presides 5 none ∈ zWs := qt_4 _ (List.mem_of_getElem? (i := 191) rfl) rfl
theorem q_284 : Cond.methodLink RX6 54 yX6_shares ∈ zWs := qt_4 _ (List.mem_of_getElem? (i := 192) rfl) rfl
theorem q_285 : Cond.instanceMethod yX6_shares ∈ zWs := qt_4 _ (List.mem_of_getElem? (i := 194) rfl) rfl
theorem q_286 : Cond.selects RX6 yX6_shares yX6_shares ∈ zWs := qp_2 _ (List.mem_of_getElem? (i := 11) rfl)
theorem q_287 : Cond.code yX6_shares cX6_shares 3 (some .int) ∈ zWs := qt_4 _ (List.mem_of_getElem? (i := 195) rfl) rfl
theorem q_288 : Cond.methodLink RX6 95 yX6_earns ∈ zWs := qt_4 _ (List.mem_of_getElem? (i := 196) rfl) rfl
theorem q_289 : Cond.instanceMethod yX6_earns ∈ zWs := qt_4 _ (List.mem_of_getElem? (i := 198) rfl) rfl
theorem q_290 : Cond.selects RX6 yX6_earns yX6_earns ∈ zWs := qp_2 _ (List.mem_of_getElem? (i := 12) rfl)
theorem q_291 : Cond.code yX6_earns cX6_earns 3 none ∈ zWs := qt_4 _ (List.mem_of_getElem? (i := 199) rfl) rfl
theorem q_292 : Cond.methodLink RX6 98 yX6_ends ∈ zWs := qt_4 _ (List.mem_of_getElem? (i := 200) rfl) rfl
theorem q_293 : Cond.instanceMethod yX6_ends ∈ zWs := qt_4 _ (List.mem_of_getElem? (i := 202) rfl) rfl
theorem q_294 : Cond.selects RX6 yX6_ends yX6_ends ∈ zWs := qp_2 _ (List.mem_of_getElem? (i := 13) rfl)
theorem q_295 : Cond.code yX6_ends cX6_ends 1 none ∈ zWs := qt_4 _ (List.mem_of_getElem? (i := 203) rfl) rfl
theorem q_296 : Cond.methodLink RX6 66 yX6_turns ∈ zWs := qt_4 _ (List.mem_of_getElem? (i := 204) rfl) rfl
theorem q_297 : Cond.instanceMethod yX6_turns ∈ zWs := qt_4 _ (List.mem_of_getElem? (i := 206) rfl) rfl
theorem q_298 : Cond.selects RX6 yX6_turns yX6_turns ∈ zWs := qp_2 _ (List.mem_of_getElem? (i := 14) rfl)
theorem q_299 : Cond.code yX6_turns cX6_turns 1 none ∈ zWs := qt_4 _ (List.mem_of_getElem? (i := 207) rfl) rfl
theorem q_300 : Cond.methodLink RL 101 yL_buy ∈ zWs := qt_3 _ (List.mem_of_getElem? (i := 156) rfl) rfl
theorem q_301 : Cond.static yL_buy ∈ zWs := qt_3 _ (List.mem_of_getElem? (i := 157) rfl) rfl
theorem q_302 : Cond.codeWith yL_buy cL_buy 4 (some .int) [(0, 9, 12, 19), (0, 9, 15, 25)] ∈ zWs := qt_3 _ (List.mem_of_getElem? (i := 158) rfl) rfl
theorem q_303 : Cond.methodLink RL 27 yX5_buy ∈ zWs := qt_3 _ (List.mem_of_getElem? (i := 159) rfl) rfl
theorem q_304 : Cond.instanceMethod yX5_buy ∈ zWs := qt_3 _ (List.mem_of_getElem? (i := 160) rfl) rfl
theorem q_305 : Cond.selects RX5 yX5_buy yX5_buy ∈ zWs := qt_3 _ (List.mem_of_getElem? (i := 161) rfl) rfl
theorem q_306 : Cond.code yX5_buy cX5_buy 2 (some .int) ∈ zWs := qt_3 _ (List.mem_of_getElem? (i := 162) rfl) rfl
theorem q_307 : Cond.methodLink RX5 89 yX1_canBuy ∈ zWs := qt_2 _ (List.mem_of_getElem? (i := 73) rfl) rfl
theorem q_308 : Cond.instanceMethod yX1_canBuy ∈ zWs := qt_2 _ (List.mem_of_getElem? (i := 74) rfl) rfl
theorem q_309 : Cond.selects RX1 yX1_canBuy yX1_canBuy ∈ zWs := qt_2 _ (List.mem_of_getElem? (i := 75) rfl) rfl
theorem q_310 : Cond.code yX1_canBuy cX1_canBuy 3 (some .boolean) ∈ zWs := qt_2 _ (List.mem_of_getElem? (i := 76) rfl) rfl
theorem q_311 : Cond.methodLink RX1 126 yX0_bankShares ∈ zWs := qt_2 _ (List.mem_of_getElem? (i := 11) rfl) rfl
theorem q_312 : Cond.instanceMethod yX0_bankShares ∈ zWs := qt_2 _ (List.mem_of_getElem? (i := 12) rfl) rfl
theorem q_313 : Cond.selects RX0 yX0_bankShares yX0_bankShares ∈ zWs := qt_2 _ (List.mem_of_getElem? (i := 13) rfl) rfl
theorem q_314 : Cond.code yX0_bankShares cX0_bankShares 3 (some .int) ∈ zWs := qt_2 _ (List.mem_of_getElem? (i := 14) rfl) rfl
theorem q_315 : Cond.methodLink RX5 92 yX1_buyShare ∈ zWs := qt_2 _ (List.mem_of_getElem? (i := 77) rfl) rfl
theorem q_316 : Cond.instanceMethod yX1_buyShare ∈ zWs := qt_2 _ (List.mem_of_getElem? (i := 78) rfl) rfl
theorem q_317 : Cond.selects RX1 yX1_buyShare yX1_buyShare ∈ zWs := qt_2 _ (List.mem_of_getElem? (i := 79) rfl) rfl
theorem q_318 : Cond.code yX1_buyShare cX1_buyShare 4 (some .int) ∈ zWs := qt_2 _ (List.mem_of_getElem? (i := 80) rfl) rfl
theorem q_319 : Cond.methodLink RL 103 yX6_buy ∈ zWs := qt_4 _ (List.mem_of_getElem? (i := 208) rfl) rfl
theorem q_320 : Cond.instanceMethod yX6_buy ∈ zWs := qt_4 _ (List.mem_of_getElem? (i := 209) rfl) rfl
theorem q_321 : Cond.selects RX6 yX6_buy yX6_buy ∈ zWs := qt_4 _ (List.mem_of_getElem? (i := 210) rfl) rfl
theorem q_322 : Cond.code yX6_buy cX6_buy 2 (some .int) ∈ zWs := qt_4 _ (List.mem_of_getElem? (i := 211) rfl) rfl
theorem q_323 : Cond.methodLink RX6 104 yX6_canBuy ∈ zWs := qt_4 _ (List.mem_of_getElem? (i := 212) rfl) rfl
theorem q_324 : Cond.instanceMethod yX6_canBuy ∈ zWs := qt_4 _ (List.mem_of_getElem? (i := 214) rfl) rfl
theorem q_325 : Cond.selects RX6 yX6_canBuy yX6_canBuy ∈ zWs := qp_2 _ (List.mem_of_getElem? (i := 15) rfl)
theorem q_326 : Cond.code yX6_canBuy cX6_canBuy 2 (some .boolean) ∈ zWs := qt_4 _ (List.mem_of_getElem? (i := 215) rfl) rfl
theorem q_327 : Cond.methodLink RX6 101 yX6_rest ∈ zWs := qt_4 _ (List.mem_of_getElem? (i := 216) rfl) rfl
theorem q_328 : Cond.instanceMethod yX6_rest ∈ zWs := qt_4 _ (List.mem_of_getElem? (i := 218) rfl) rfl
theorem q_329 : Cond.selects RX6 yX6_rest yX6_rest ∈ zWs := qp_3 _ (List.mem_of_getElem? (i := 0) rfl)
theorem q_330 : Cond.code yX6_rest cX6_rest 4 (some .int) ∈ zWs := qt_4 _ (List.mem_of_getElem? (i := 219) rfl) rfl
theorem q_331 : Cond.methodLink RX6 107 yX6_buys ∈ zWs := qt_4 _ (List.mem_of_getElem? (i := 220) rfl) rfl
theorem q_332 : Cond.instanceMethod yX6_buys ∈ zWs := qt_4 _ (List.mem_of_getElem? (i := 222) rfl) rfl
theorem q_333 : Cond.selects RX6 yX6_buys yX6_buys ∈ zWs := qp_3 _ (List.mem_of_getElem? (i := 1) rfl)
theorem q_334 : Cond.code yX6_buys cX6_buys 3 (some .int) ∈ zWs := qt_4 _ (List.mem_of_getElem? (i := 223) rfl) rfl
theorem q_335 : Cond.methodLink RL 104 yL_sell ∈ zWs := qt_3 _ (List.mem_of_getElem? (i := 163) rfl) rfl
theorem q_336 : Cond.static yL_sell ∈ zWs := qt_3 _ (List.mem_of_getElem? (i := 164) rfl) rfl
theorem q_337 : Cond.codeWith yL_sell cL_sell 5 (some .int) [(0, 10, 13, 19), (0, 10, 17, 13), (0, 10, 21, 25)] ∈ zWs := qt_3 _ (List.mem_of_getElem? (i := 165) rfl) rfl
theorem q_338 : Cond.methodLink RL 30 yX5_sell ∈ zWs := qt_3 _ (List.mem_of_getElem? (i := 166) rfl) rfl
theorem q_339 : Cond.instanceMethod yX5_sell ∈ zWs := qt_3 _ (List.mem_of_getElem? (i := 167) rfl) rfl
theorem q_340 : Cond.selects RX5 yX5_sell yX5_sell ∈ zWs := qt_3 _ (List.mem_of_getElem? (i := 168) rfl) rfl
theorem q_341 : Cond.code yX5_sell cX5_sell 3 (some .int) ∈ zWs := qt_3 _ (List.mem_of_getElem? (i := 169) rfl) rfl
theorem q_342 : Cond.fieldLink RX5 99 "StockLines$Game" "turn" "I" ∈ zWs := qt_1 _ (List.mem_of_getElem? (i := 157) rfl) rfl
theorem q_343 : Cond.fieldLink RX5 105 "StockLines$Game" "cash" "[I" ∈ zWs := qt_1 _ (List.mem_of_getElem? (i := 149) rfl) rfl
theorem q_344 : Cond.methodLink RX5 96 yX1_canSell ∈ zWs := qt_2 _ (List.mem_of_getElem? (i := 97) rfl) rfl
theorem q_345 : Cond.instanceMethod yX1_canSell ∈ zWs := qt_2 _ (List.mem_of_getElem? (i := 98) rfl) rfl
theorem q_346 : Cond.selects RX1 yX1_canSell yX1_canSell ∈ zWs := qt_2 _ (List.mem_of_getElem? (i := 99) rfl) rfl
theorem q_347 : Cond.code yX1_canSell cX1_canSell 4 (some .boolean) ∈ zWs := qt_2 _ (List.mem_of_getElem? (i := 100) rfl) rfl
theorem q_348 : Cond.methodLink RX5 102 yX1_sellShares ∈ zWs := qt_2 _ (List.mem_of_getElem? (i := 101) rfl) rfl
theorem q_349 : Cond.instanceMethod yX1_sellShares ∈ zWs := qt_2 _ (List.mem_of_getElem? (i := 102) rfl) rfl
theorem q_350 : Cond.selects RX1 yX1_sellShares yX1_sellShares ∈ zWs := qt_2 _ (List.mem_of_getElem? (i := 103) rfl) rfl
theorem q_351 : Cond.code yX1_sellShares cX1_sellShares 5 none ∈ zWs := qt_2 _ (List.mem_of_getElem? (i := 104) rfl) rfl
theorem q_352 : Cond.fieldLink RX1 129 "StockLines$Company" "step" "I" ∈ zWs := qt_1 _ (List.mem_of_getElem? (i := 102) rfl) rfl
theorem q_353 : Cond.methodLink RX1 132 yX0_fall ∈ zWs := qt_2 _ (List.mem_of_getElem? (i := 106) rfl) rfl
theorem q_354 : Cond.instanceMethod yX0_fall ∈ zWs := qt_2 _ (List.mem_of_getElem? (i := 107) rfl) rfl
theorem q_355 : Cond.selects RX0 yX0_fall yX0_fall ∈ zWs := qt_2 _ (List.mem_of_getElem? (i := 108) rfl) rfl
theorem q_356 : Cond.code yX0_fall cX0_fall 1 none ∈ zWs := qt_2 _ (List.mem_of_getElem? (i := 109) rfl) rfl
theorem q_357 : Cond.methodLink RL 106 yX6_sell ∈ zWs := qt_4 _ (List.mem_of_getElem? (i := 224) rfl) rfl
theorem q_358 : Cond.instanceMethod yX6_sell ∈ zWs := qt_4 _ (List.mem_of_getElem? (i := 225) rfl) rfl
theorem q_359 : Cond.selects RX6 yX6_sell yX6_sell ∈ zWs := qt_4 _ (List.mem_of_getElem? (i := 226) rfl) rfl
theorem q_360 : Cond.code yX6_sell cX6_sell 3 (some .int) ∈ zWs := qt_4 _ (List.mem_of_getElem? (i := 227) rfl) rfl
theorem q_361 : Cond.methodLink RX6 113 yX6_canSell ∈ zWs := qt_4 _ (List.mem_of_getElem? (i := 228) rfl) rfl
theorem q_362 : Cond.instanceMethod yX6_canSell ∈ zWs := qt_4 _ (List.mem_of_getElem? (i := 230) rfl) rfl
theorem q_363 : Cond.selects RX6 yX6_canSell yX6_canSell ∈ zWs := qp_3 _ (List.mem_of_getElem? (i := 2) rfl)
theorem q_364 : Cond.code yX6_canSell cX6_canSell 3 (some .boolean) ∈ zWs := qt_4 _ (List.mem_of_getElem? (i := 231) rfl) rfl
theorem q_365 : Cond.methodLink RX6 117 yX6_sells ∈ zWs := qt_4 _ (List.mem_of_getElem? (i := 232) rfl) rfl
theorem q_366 : Cond.instanceMethod yX6_sells ∈ zWs := qt_4 _ (List.mem_of_getElem? (i := 234) rfl) rfl
theorem q_367 : Cond.selects RX6 yX6_sells yX6_sells ∈ zWs := qp_3 _ (List.mem_of_getElem? (i := 3) rfl)
theorem q_368 : Cond.code yX6_sells cX6_sells 3 (some .int) ∈ zWs := qt_4 _ (List.mem_of_getElem? (i := 235) rfl) rfl
theorem q_369 : Cond.methodLink RX6 110 yX6_shifts ∈ zWs := qt_4 _ (List.mem_of_getElem? (i := 236) rfl) rfl
theorem q_370 : Cond.instanceMethod yX6_shifts ∈ zWs := qt_4 _ (List.mem_of_getElem? (i := 238) rfl) rfl
theorem q_371 : Cond.selects RX6 yX6_shifts yX6_shifts ∈ zWs := qp_3 _ (List.mem_of_getElem? (i := 4) rfl)
theorem q_372 : Cond.code yX6_shifts cX6_shifts 4 none ∈ zWs := qt_4 _ (List.mem_of_getElem? (i := 239) rfl) rfl
theorem q_373 : Cond.methodLink RL 107 yL_merge ∈ zWs := qt_3 _ (List.mem_of_getElem? (i := 170) rfl) rfl
theorem q_374 : Cond.static yL_merge ∈ zWs := qt_3 _ (List.mem_of_getElem? (i := 171) rfl) rfl
theorem q_375 : Cond.codeWith yL_merge cL_merge 5 (some .int) [(0, 10, 13, 19), (0, 10, 17, 13), (0, 10, 21, 25)] ∈ zWs := qt_3 _ (List.mem_of_getElem? (i := 172) rfl) rfl
theorem q_376 : Cond.methodLink RL 33 yX5_merge ∈ zWs := qt_3 _ (List.mem_of_getElem? (i := 173) rfl) rfl
theorem q_377 : Cond.instanceMethod yX5_merge ∈ zWs := qt_3 _ (List.mem_of_getElem? (i := 174) rfl) rfl
theorem q_378 : Cond.selects RX5 yX5_merge yX5_merge ∈ zWs := qt_3 _ (List.mem_of_getElem? (i := 175) rfl) rfl
theorem q_379 : Cond.code yX5_merge cX5_merge 3 (some .int) ∈ zWs := qt_3 _ (List.mem_of_getElem? (i := 176) rfl) rfl
theorem q_380 : Cond.methodLink RX5 107 yX1_canMerge ∈ zWs := qt_3 _ (List.mem_of_getElem? (i := 177) rfl) rfl
theorem q_381 : Cond.instanceMethod yX1_canMerge ∈ zWs := qt_3 _ (List.mem_of_getElem? (i := 178) rfl) rfl
theorem q_382 : Cond.selects RX1 yX1_canMerge yX1_canMerge ∈ zWs := qt_3 _ (List.mem_of_getElem? (i := 179) rfl) rfl
theorem q_383 : Cond.code yX1_canMerge cX1_canMerge 5 (some .boolean) ∈ zWs := qt_3 _ (List.mem_of_getElem? (i := 180) rfl) rfl
theorem q_384 : Cond.fieldLink RX1 135 "StockLines$Company" "president" "I" ∈ zWs := qt_1 _ (List.mem_of_getElem? (i := 106) rfl) rfl
theorem q_385 : Cond.methodLink RX1 138 yX0_exchangedShares ∈ zWs := qt_3 _ (List.mem_of_getElem? (i := 181) rfl) rfl
theorem q_386 : Cond.instanceMethod yX0_exchangedShares ∈ zWs := qt_3 _ (List.mem_of_getElem? (i := 182) rfl) rfl
theorem q_387 : Cond.selects RX0 yX0_exchangedShares yX0_exchangedShares ∈ zWs := qt_3 _ (List.mem_of_getElem? (i := 183) rfl) rfl
theorem q_388 : Cond.code yX0_exchangedShares cX0_exchangedShares 3 (some .int) ∈ zWs := qt_3 _ (List.mem_of_getElem? (i := 184) rfl) rfl
theorem q_389 : Cond.methodLink RX5 110 yX1_mergeCompanies ∈ zWs := qt_3 _ (List.mem_of_getElem? (i := 185) rfl) rfl
theorem q_390 : Cond.instanceMethod yX1_mergeCompanies ∈ zWs := qt_3 _ (List.mem_of_getElem? (i := 186) rfl) rfl
theorem q_391 : Cond.selects RX1 yX1_mergeCompanies yX1_mergeCompanies ∈ zWs := qt_3 _ (List.mem_of_getElem? (i := 187) rfl) rfl
theorem q_392 : Cond.code yX1_mergeCompanies cX1_mergeCompanies 8 none ∈ zWs := qt_3 _ (List.mem_of_getElem? (i := 188) rfl) rfl
theorem q_393 : Cond.methodLink RL 109 yX6_merge ∈ zWs := qt_5 _ (List.mem_of_getElem? (i := 0) rfl) rfl
theorem q_394 : Cond.instanceMethod yX6_merge ∈ zWs := qt_5 _ (List.mem_of_getElem? (i := 1) rfl) rfl
theorem q_395 : Cond.selects RX6 yX6_merge yX6_merge ∈ zWs := qt_5 _ (List.mem_of_getElem? (i := 2) rfl) rfl
theorem q_396 : Cond.code yX6_merge cX6_merge 5 (some .int) ∈ zWs := qt_5 _ (List.mem_of_getElem? (i := 3) rfl) rfl
theorem q_397 : Cond.methodLink RX6 123 yX6_canMerge ∈ zWs := qt_5 _ (List.mem_of_getElem? (i := 4) rfl) rfl
theorem q_398 : Cond.instanceMethod yX6_canMerge ∈ zWs := qt_5 _ (List.mem_of_getElem? (i := 6) rfl) rfl
theorem q_399 : Cond.selects RX6 yX6_canMerge yX6_canMerge ∈ zWs := qp_3 _ (List.mem_of_getElem? (i := 5) rfl)
theorem q_400 : Cond.code yX6_canMerge cX6_canMerge 3 (some .boolean) ∈ zWs := qt_5 _ (List.mem_of_getElem? (i := 7) rfl) rfl
theorem q_401 : Cond.methodLink RX6 120 yX6_wanted ∈ zWs := qt_5 _ (List.mem_of_getElem? (i := 8) rfl) rfl
theorem q_402 : Cond.instanceMethod yX6_wanted ∈ zWs := qt_5 _ (List.mem_of_getElem? (i := 10) rfl) rfl
theorem q_403 : Cond.selects RX6 yX6_wanted yX6_wanted ∈ zWs := qp_3 _ (List.mem_of_getElem? (i := 6) rfl)
theorem q_404 : Cond.code yX6_wanted cX6_wanted 4 (some .int) ∈ zWs := qt_5 _ (List.mem_of_getElem? (i := 11) rfl) rfl
theorem q_405 : Cond.methodLink RX6 126 yX6_closes ∈ zWs := qt_5 _ (List.mem_of_getElem? (i := 12) rfl) rfl
theorem q_406 : Cond.instanceMethod yX6_closes ∈ zWs := qt_5 _ (List.mem_of_getElem? (i := 14) rfl) rfl
theorem q_407 : Cond.selects RX6 yX6_closes yX6_closes ∈ zWs := qp_3 _ (List.mem_of_getElem? (i := 7) rfl)
theorem q_408 : Cond.code yX6_closes cX6_closes 3 none ∈ zWs := qt_5 _ (List.mem_of_getElem? (i := 15) rfl) rfl
theorem q_409 : Cond.methodLink RL 110 yL_pass ∈ zWs := qt_3 _ (List.mem_of_getElem? (i := 189) rfl) rfl
theorem q_410 : Cond.static yL_pass ∈ zWs := qt_3 _ (List.mem_of_getElem? (i := 190) rfl) rfl
theorem q_411 : Cond.codeWith yL_pass cL_pass 3 (some .int) [(0, 8, 11, 25)] ∈ zWs := qt_3 _ (List.mem_of_getElem? (i := 191) rfl) rfl
theorem q_412 : Cond.methodLink RL 36 yX5_pass ∈ zWs := qt_3 _ (List.mem_of_getElem? (i := 192) rfl) rfl
theorem q_413 : Cond.instanceMethod yX5_pass ∈ zWs := qt_3 _ (List.mem_of_getElem? (i := 193) rfl) rfl
theorem q_414 : Cond.selects RX5 yX5_pass yX5_pass ∈ zWs := qt_3 _ (List.mem_of_getElem? (i := 194) rfl) rfl
theorem q_415 : Cond.code yX5_pass cX5_pass 1 (some .int) ∈ zWs := qt_3 _ (List.mem_of_getElem? (i := 195) rfl) rfl
theorem q_416 : Cond.fieldLink RX5 114 "StockLines$Game" "operating" "Z" ∈ zWs := qt_1 _ (List.mem_of_getElem? (i := 160) rfl) rfl
theorem q_417 : Cond.methodLink RX5 118 yX1_passTurn ∈ zWs := qt_2 _ (List.mem_of_getElem? (i := 110) rfl) rfl
theorem q_418 : Cond.instanceMethod yX1_passTurn ∈ zWs := qt_2 _ (List.mem_of_getElem? (i := 111) rfl) rfl
theorem q_419 : Cond.selects RX1 yX1_passTurn yX1_passTurn ∈ zWs := qt_2 _ (List.mem_of_getElem? (i := 112) rfl) rfl
theorem q_420 : Cond.code yX1_passTurn cX1_passTurn 1 none ∈ zWs := qt_2 _ (List.mem_of_getElem? (i := 113) rfl) rfl
theorem q_421 : Cond.methodLink RX1 144 yX1_beginOperating ∈ zWs := qt_2 _ (List.mem_of_getElem? (i := 114) rfl) rfl
theorem q_422 : Cond.instanceMethod yX1_beginOperating ∈ zWs := qt_2 _ (List.mem_of_getElem? (i := 116) rfl) rfl
theorem q_423 : Cond.selects RX1 yX1_beginOperating yX1_beginOperating ∈ zWs := qp_1 _ (List.mem_of_getElem? (i := 5) rfl)
theorem q_424 : Cond.code yX1_beginOperating cX1_beginOperating 2 none ∈ zWs := qt_2 _ (List.mem_of_getElem? (i := 117) rfl) rfl
theorem q_425 : Cond.methodLink RX1 147 yX1_putInOrder ∈ zWs := qt_2 _ (List.mem_of_getElem? (i := 118) rfl) rfl
theorem q_426 : Cond.instanceMethod yX1_putInOrder ∈ zWs := qt_2 _ (List.mem_of_getElem? (i := 120) rfl) rfl
theorem q_427 : Cond.selects RX1 yX1_putInOrder yX1_putInOrder ∈ zWs := qp_1 _ (List.mem_of_getElem? (i := 6) rfl)
theorem q_428 : Cond.code yX1_putInOrder cX1_putInOrder 3 none ∈ zWs := qt_2 _ (List.mem_of_getElem? (i := 121) rfl) rfl
theorem q_429 : Cond.methodLink RX1 150 yX1_endOperatingIfOver ∈ zWs := qt_2 _ (List.mem_of_getElem? (i := 122) rfl) rfl
theorem q_430 : Cond.instanceMethod yX1_endOperatingIfOver ∈ zWs := qt_2 _ (List.mem_of_getElem? (i := 124) rfl) rfl
theorem q_431 : Cond.selects RX1 yX1_endOperatingIfOver yX1_endOperatingIfOver ∈ zWs := qp_1 _ (List.mem_of_getElem? (i := 7) rfl)
theorem q_432 : Cond.code yX1_endOperatingIfOver cX1_endOperatingIfOver 1 none ∈ zWs := qt_2 _ (List.mem_of_getElem? (i := 125) rfl) rfl
theorem q_433 : Cond.methodLink RL 113 yX6_pass ∈ zWs := qt_5 _ (List.mem_of_getElem? (i := 16) rfl) rfl
theorem q_434 : Cond.instanceMethod yX6_pass ∈ zWs := qt_5 _ (List.mem_of_getElem? (i := 17) rfl) rfl
theorem q_435 : Cond.selects RX6 yX6_pass yX6_pass ∈ zWs := qt_5 _ (List.mem_of_getElem? (i := 18) rfl) rfl
theorem q_436 : Cond.code yX6_pass cX6_pass 1 (some .int) ∈ zWs := qt_5 _ (List.mem_of_getElem? (i := 19) rfl) rfl
theorem q_437 : Cond.methodLink RX6 138 yX6_passes ∈ zWs := qt_5 _ (List.mem_of_getElem? (i := 20) rfl) rfl
theorem q_438 : Cond.instanceMethod yX6_passes ∈ zWs := qt_5 _ (List.mem_of_getElem? (i := 22) rfl) rfl
theorem q_439 : Cond.selects RX6 yX6_passes yX6_passes ∈ zWs := qp_3 _ (List.mem_of_getElem? (i := 8) rfl)
theorem q_440 : Cond.code yX6_passes cX6_passes 1 (some .int) ∈ zWs := qt_5 _ (List.mem_of_getElem? (i := 23) rfl) rfl
theorem q_441 : Cond.methodLink RX6 132 yX6_orders ∈ zWs := qt_5 _ (List.mem_of_getElem? (i := 24) rfl) rfl
theorem q_442 : Cond.instanceMethod yX6_orders ∈ zWs := qt_5 _ (List.mem_of_getElem? (i := 26) rfl) rfl
theorem q_443 : Cond.selects RX6 yX6_orders yX6_orders ∈ zWs := qp_3 _ (List.mem_of_getElem? (i := 9) rfl)
theorem q_444 : Cond.code yX6_orders cX6_orders 4 none ∈ zWs := qt_5 _ (List.mem_of_getElem? (i := 27) rfl) rfl
theorem q_445 : Cond.methodLink RX6 129 yX6_isAhead ∈ zWs := qt_5 _ (List.mem_of_getElem? (i := 28) rfl) rfl
theorem q_446 : Cond.instanceMethod yX6_isAhead ∈ zWs := qt_5 _ (List.mem_of_getElem? (i := 30) rfl) rfl
theorem q_447 : Cond.selects RX6 yX6_isAhead yX6_isAhead ∈ zWs := qp_3 _ (List.mem_of_getElem? (i := 10) rfl)
theorem q_448 : Cond.code yX6_isAhead cX6_isAhead 3 (some .boolean) ∈ zWs := qt_5 _ (List.mem_of_getElem? (i := 31) rfl) rfl
theorem q_449 : Cond.methodLink RX6 135 yX6_goesOn ∈ zWs := qt_5 _ (List.mem_of_getElem? (i := 32) rfl) rfl
theorem q_450 : Cond.instanceMethod yX6_goesOn ∈ zWs := qt_5 _ (List.mem_of_getElem? (i := 34) rfl) rfl
theorem q_451 : Cond.selects RX6 yX6_goesOn yX6_goesOn ∈ zWs := qp_3 _ (List.mem_of_getElem? (i := 11) rfl)
theorem q_452 : Cond.code yX6_goesOn cX6_goesOn 1 none ∈ zWs := qt_5 _ (List.mem_of_getElem? (i := 35) rfl) rfl
theorem q_453 : Cond.methodLink RL 114 yL_extend ∈ zWs := qt_3 _ (List.mem_of_getElem? (i := 196) rfl) rfl
theorem q_454 : Cond.static yL_extend ∈ zWs := qt_3 _ (List.mem_of_getElem? (i := 197) rfl) rfl
theorem q_455 : Cond.codeWith yL_extend cL_extend 3 (some .int) [(0, 8, 11, 25)] ∈ zWs := qt_3 _ (List.mem_of_getElem? (i := 198) rfl) rfl
theorem q_456 : Cond.methodLink RL 40 yX5_extend ∈ zWs := qt_3 _ (List.mem_of_getElem? (i := 199) rfl) rfl
theorem q_457 : Cond.instanceMethod yX5_extend ∈ zWs := qt_3 _ (List.mem_of_getElem? (i := 200) rfl) rfl
theorem q_458 : Cond.selects RX5 yX5_extend yX5_extend ∈ zWs := qt_3 _ (List.mem_of_getElem? (i := 201) rfl) rfl
theorem q_459 : Cond.code yX5_extend cX5_extend 1 (some .int) ∈ zWs := qt_3 _ (List.mem_of_getElem? (i := 202) rfl) rfl
theorem q_460 : Cond.methodLink RX5 121 yX1_canExtend ∈ zWs := qt_3 _ (List.mem_of_getElem? (i := 203) rfl) rfl
theorem q_461 : Cond.instanceMethod yX1_canExtend ∈ zWs := qt_3 _ (List.mem_of_getElem? (i := 204) rfl) rfl
theorem q_462 : Cond.selects RX1 yX1_canExtend yX1_canExtend ∈ zWs := qt_3 _ (List.mem_of_getElem? (i := 205) rfl) rfl
theorem q_463 : Cond.code yX1_canExtend cX1_canExtend 3 (some .boolean) ∈ zWs := qt_3 _ (List.mem_of_getElem? (i := 206) rfl) rfl
theorem q_464 : Cond.fieldLink RX1 156 "StockLines$Company" "stops" "I" ∈ zWs := qt_1 _ (List.mem_of_getElem? (i := 104) rfl) rfl
theorem q_465 : Cond.methodLink RX1 153 yX1_nextCompany ∈ zWs := qt_2 _ (List.mem_of_getElem? (i := 130) rfl) rfl
theorem q_466 : Cond.instanceMethod yX1_nextCompany ∈ zWs := qt_2 _ (List.mem_of_getElem? (i := 131) rfl) rfl
theorem q_467 : Cond.selects RX1 yX1_nextCompany yX1_nextCompany ∈ zWs := qt_2 _ (List.mem_of_getElem? (i := 132) rfl) rfl
theorem q_468 : Cond.code yX1_nextCompany cX1_nextCompany 1 (some .int) ∈ zWs := qt_2 _ (List.mem_of_getElem? (i := 133) rfl) rfl
theorem q_469 : Cond.methodLink RX5 125 yX1_extendNext ∈ zWs := qt_3 _ (List.mem_of_getElem? (i := 207) rfl) rfl
theorem q_470 : Cond.instanceMethod yX1_extendNext ∈ zWs := qt_3 _ (List.mem_of_getElem? (i := 208) rfl) rfl
theorem q_471 : Cond.selects RX1 yX1_extendNext yX1_extendNext ∈ zWs := qt_3 _ (List.mem_of_getElem? (i := 209) rfl) rfl
theorem q_472 : Cond.code yX1_extendNext cX1_extendNext 3 (some .int) ∈ zWs := qt_3 _ (List.mem_of_getElem? (i := 210) rfl) rfl
theorem q_473 : Cond.methodLink RX1 159 yX1_companyPays ∈ zWs := qt_2 _ (List.mem_of_getElem? (i := 162) rfl) rfl
theorem q_474 : Cond.instanceMethod yX1_companyPays ∈ zWs := qt_2 _ (List.mem_of_getElem? (i := 164) rfl) rfl
theorem q_475 : Cond.selects RX1 yX1_companyPays yX1_companyPays ∈ zWs := qp_1 _ (List.mem_of_getElem? (i := 9) rfl)
theorem q_476 : Cond.code yX1_companyPays cX1_companyPays 3 none ∈ zWs := qt_2 _ (List.mem_of_getElem? (i := 165) rfl) rfl
theorem q_477 : Cond.methodLink RL 116 yX6_extend ∈ zWs := qt_5 _ (List.mem_of_getElem? (i := 36) rfl) rfl
theorem q_478 : Cond.instanceMethod yX6_extend ∈ zWs := qt_5 _ (List.mem_of_getElem? (i := 37) rfl) rfl
theorem q_479 : Cond.selects RX6 yX6_extend yX6_extend ∈ zWs := qt_5 _ (List.mem_of_getElem? (i := 38) rfl) rfl
theorem q_480 : Cond.code yX6_extend cX6_extend 2 (some .int) ∈ zWs := qt_5 _ (List.mem_of_getElem? (i := 39) rfl) rfl
theorem q_481 : Cond.methodLink RX6 141 yX6_next ∈ zWs := qt_5 _ (List.mem_of_getElem? (i := 40) rfl) rfl
theorem q_482 : Cond.instanceMethod yX6_next ∈ zWs := qt_5 _ (List.mem_of_getElem? (i := 42) rfl) rfl
theorem q_483 : Cond.selects RX6 yX6_next yX6_next ∈ zWs := qp_3 _ (List.mem_of_getElem? (i := 12) rfl)
theorem q_484 : Cond.code yX6_next cX6_next 1 (some .int) ∈ zWs := qt_5 _ (List.mem_of_getElem? (i := 43) rfl) rfl
theorem q_485 : Cond.methodLink RL 117 yL_operate ∈ zWs := qt_3 _ (List.mem_of_getElem? (i := 211) rfl) rfl
theorem q_486 : Cond.static yL_operate ∈ zWs := qt_3 _ (List.mem_of_getElem? (i := 212) rfl) rfl
theorem q_487 : Cond.codeWith yL_operate cL_operate 6 (some .int) [(0, 12, 15, 19), (0, 12, 19, 13), (0, 12, 23, 25)] ∈ zWs := qt_3 _ (List.mem_of_getElem? (i := 213) rfl) rfl
theorem q_488 : Cond.methodLink RL 43 yX5_operate ∈ zWs := qt_3 _ (List.mem_of_getElem? (i := 214) rfl) rfl
theorem q_489 : Cond.instanceMethod yX5_operate ∈ zWs := qt_3 _ (List.mem_of_getElem? (i := 215) rfl) rfl
theorem q_490 : Cond.selects RX5 yX5_operate yX5_operate ∈ zWs := qt_3 _ (List.mem_of_getElem? (i := 216) rfl) rfl
theorem q_491 : Cond.code yX5_operate cX5_operate 5 (some .int) ∈ zWs := qt_3 _ (List.mem_of_getElem? (i := 217) rfl) rfl
theorem q_492 : Cond.methodLink RX5 129 yX1_canOperate ∈ zWs := qt_2 _ (List.mem_of_getElem? (i := 126) rfl) rfl
theorem q_493 : Cond.instanceMethod yX1_canOperate ∈ zWs := qt_2 _ (List.mem_of_getElem? (i := 127) rfl) rfl
theorem q_494 : Cond.selects RX1 yX1_canOperate yX1_canOperate ∈ zWs := qt_2 _ (List.mem_of_getElem? (i := 128) rfl) rfl
theorem q_495 : Cond.code yX1_canOperate cX1_canOperate 5 (some .boolean) ∈ zWs := qt_2 _ (List.mem_of_getElem? (i := 129) rfl) rfl
theorem q_496 : Cond.methodLink RX1 163 yX1_canLay ∈ zWs := qt_2 _ (List.mem_of_getElem? (i := 134) rfl) rfl
theorem q_497 : Cond.instanceMethod yX1_canLay ∈ zWs := qt_2 _ (List.mem_of_getElem? (i := 135) rfl) rfl
theorem q_498 : Cond.selects RX1 yX1_canLay yX1_canLay ∈ zWs := qt_2 _ (List.mem_of_getElem? (i := 136) rfl) rfl
theorem q_499 : Cond.code yX1_canLay cX1_canLay 5 (some .boolean) ∈ zWs := qt_2 _ (List.mem_of_getElem? (i := 137) rfl) rfl
theorem q_500 : Cond.fieldLink RX1 171 "StockLines$Land" "level" "[[I" ∈ zWs := qt_1 _ (List.mem_of_getElem? (i := 77) rfl) rfl
theorem q_501 : Cond.fieldLink RX1 175 "StockLines$Company" "home" "I" ∈ zWs := qt_1 _ (List.mem_of_getElem? (i := 97) rfl) rfl
theorem q_502 : Cond.methodLink RX1 178 yX3_measure ∈ zWs := qt_2 _ (List.mem_of_getElem? (i := 141) rfl) rfl
theorem q_503 : Cond.instanceMethod yX3_measure ∈ zWs := qt_2 _ (List.mem_of_getElem? (i := 142) rfl) rfl
theorem q_504 : Cond.selects RX3 yX3_measure yX3_measure ∈ zWs := qt_2 _ (List.mem_of_getElem? (i := 143) rfl) rfl
theorem q_505 : Cond.code yX3_measure cX3_measure 6 none ∈ zWs := qt_2 _ (List.mem_of_getElem? (i := 144) rfl) rfl
theorem q_506 : Cond.fieldLink RX3 27 "StockLines$Land" "level" "[[I" ∈ zWs := qt_1 _ (List.mem_of_getElem? (i := 75) rfl) rfl
theorem q_507 : Cond.methodLink RX3 21 yJ7_fill_53178 ∈ zWs := qt_2 _ (List.mem_of_getElem? (i := 145) rfl) rfl
theorem q_508 : Cond.methodLink RX3 33 yX3_markNeighbours ∈ zWs := qt_2 _ (List.mem_of_getElem? (i := 146) rfl) rfl
theorem q_509 : Cond.instanceMethod yX3_markNeighbours ∈ zWs := qt_2 _ (List.mem_of_getElem? (i := 148) rfl) rfl
theorem q_510 : Cond.selects RX3 yX3_markNeighbours yX3_markNeighbours ∈ zWs := qp_1 _ (List.mem_of_getElem? (i := 8) rfl)
theorem q_511 : Cond.code yX3_markNeighbours cX3_markNeighbours 5 (some .boolean) ∈ zWs := qt_2 _ (List.mem_of_getElem? (i := 149) rfl) rfl
theorem q_512 : Cond.methodLink RX1 184 yX3_reached ∈ zWs := qt_2 _ (List.mem_of_getElem? (i := 150) rfl) rfl
theorem q_513 : Cond.instanceMethod yX3_reached ∈ zWs := qt_2 _ (List.mem_of_getElem? (i := 151) rfl) rfl
theorem q_514 : Cond.selects RX3 yX3_reached yX3_reached ∈ zWs := qt_2 _ (List.mem_of_getElem? (i := 152) rfl) rfl
theorem q_515 : Cond.code yX3_reached cX3_reached 2 (some .boolean) ∈ zWs := qt_2 _ (List.mem_of_getElem? (i := 153) rfl) rfl
theorem q_516 : Cond.methodLink RX5 132 yX1_operateNext ∈ zWs := qt_2 _ (List.mem_of_getElem? (i := 154) rfl) rfl
theorem q_517 : Cond.instanceMethod yX1_operateNext ∈ zWs := qt_2 _ (List.mem_of_getElem? (i := 155) rfl) rfl
theorem q_518 : Cond.selects RX1 yX1_operateNext yX1_operateNext ∈ zWs := qt_2 _ (List.mem_of_getElem? (i := 156) rfl) rfl
theorem q_519 : Cond.code yX1_operateNext cX1_operateNext 7 (some .int) ∈ zWs := qt_2 _ (List.mem_of_getElem? (i := 157) rfl) rfl
theorem q_520 : Cond.fieldLink RX1 195 "StockLines$Company" "latest" "I" ∈ zWs := qt_1 _ (List.mem_of_getElem? (i := 108) rfl) rfl
theorem q_521 : Cond.methodLink RX1 187 yX2_setLevel ∈ zWs := qt_2 _ (List.mem_of_getElem? (i := 158) rfl) rfl
theorem q_522 : Cond.instanceMethod yX2_setLevel ∈ zWs := qt_2 _ (List.mem_of_getElem? (i := 159) rfl) rfl
theorem q_523 : Cond.selects RX2 yX2_setLevel yX2_setLevel ∈ zWs := qt_2 _ (List.mem_of_getElem? (i := 160) rfl) rfl
theorem q_524 : Cond.code yX2_setLevel cX2_setLevel 4 none ∈ zWs := qt_2 _ (List.mem_of_getElem? (i := 161) rfl) rfl
theorem q_525 : Cond.methodLink RX1 191 yX1_incomeOf ∈ zWs := qt_2 _ (List.mem_of_getElem? (i := 166) rfl) rfl
theorem q_526 : Cond.instanceMethod yX1_incomeOf ∈ zWs := qt_2 _ (List.mem_of_getElem? (i := 167) rfl) rfl
theorem q_527 : Cond.selects RX1 yX1_incomeOf yX1_incomeOf ∈ zWs := qt_2 _ (List.mem_of_getElem? (i := 168) rfl) rfl
theorem q_528 : Cond.code yX1_incomeOf cX1_incomeOf 2 (some .int) ∈ zWs := qt_2 _ (List.mem_of_getElem? (i := 169) rfl) rfl
theorem q_529 : Cond.methodLink RX1 222 yX3_find ∈ zWs := qt_2 _ (List.mem_of_getElem? (i := 170) rfl) rfl
theorem q_530 : Cond.instanceMethod yX3_find ∈ zWs := qt_2 _ (List.mem_of_getElem? (i := 171) rfl) rfl
theorem q_531 : Cond.selects RX3 yX3_find yX3_find ∈ zWs := qt_2 _ (List.mem_of_getElem? (i := 172) rfl) rfl
theorem q_532 : Cond.code yX3_find cX3_find 5 none ∈ zWs := qt_2 _ (List.mem_of_getElem? (i := 173) rfl) rfl
theorem q_533 : Cond.fieldLink RX3 41 "StockLines$RouteSearch" "land" "LStockLines$Land;" ∈ zWs := qt_1 _ (List.mem_of_getElem? (i := 34) rfl) rfl
theorem q_534 : Cond.fieldLink RX3 45 "StockLines$RouteSearch" "homeBit" "I" ∈ zWs := qt_1 _ (List.mem_of_getElem? (i := 35) rfl) rfl
theorem q_535 : Cond.methodLink RX3 49 yJ9_min_7cf53 ∈ zWs := qt_2 _ (List.mem_of_getElem? (i := 175) rfl) rfl
theorem q_536 : Cond.static yJ9_min_7cf53 ∈ zWs := qt_2 _ (List.mem_of_getElem? (i := 176) rfl) rfl
theorem q_537 : Cond.initialized "java/lang/Math" ∈ zWs := qt_1 _ (List.mem_of_getElem? (i := 16) rfl) rfl
theorem q_538 : Cond.code yJ9_min_7cf53 cJ9_min_7cf53 2 (some .int) ∈ zWs := qt_2 _ (List.mem_of_getElem? (i := 177) rfl) rfl
theorem q_539 : Cond.fieldLink RX3 55 "StockLines$RouteSearch" "stops" "I" ∈ zWs := qt_1 _ (List.mem_of_getElem? (i := 36) rfl) rfl
theorem q_540 : Cond.fieldLink RX3 58 "StockLines$RouteSearch" "bestLength" "I" ∈ zWs := qt_1 _ (List.mem_of_getElem? (i := 37) rfl) rfl
theorem q_541 : Cond.fieldLink RX3 61 "StockLines$RouteSearch" "bestIncome" "I" ∈ zWs := qt_1 _ (List.mem_of_getElem? (i := 38) rfl) rfl
theorem q_542 : Cond.methodLink RX3 37 yX3_measure ∈ zWs := qt_2 _ (List.mem_of_getElem? (i := 174) rfl) rfl
theorem q_543 : Cond.methodLink RX3 64 yX3_grow ∈ zWs := qt_2 _ (List.mem_of_getElem? (i := 178) rfl) rfl
theorem q_544 : Cond.static yX3_grow ∈ zWs := qt_2 _ (List.mem_of_getElem? (i := 179) rfl) rfl
theorem q_545 : Cond.code yX3_grow cX3_grow 12 none ∈ zWs := qt_2 _ (List.mem_of_getElem? (i := 180) rfl) rfl
theorem q_546 : Cond.fieldLink RX3 71 "StockLines$Land" "worth" "[I" ∈ zWs := qt_1 _ (List.mem_of_getElem? (i := 73) rfl) rfl
theorem q_547 : Cond.methodLink RX3 74 yX3_keep ∈ zWs := qt_2 _ (List.mem_of_getElem? (i := 181) rfl) rfl
theorem q_548 : Cond.instanceMethod yX3_keep ∈ zWs := qt_2 _ (List.mem_of_getElem? (i := 183) rfl) rfl
theorem q_549 : Cond.selects RX3 yX3_keep yX3_keep ∈ zWs := qp_1 _ (List.mem_of_getElem? (i := 10) rfl)
theorem q_550 : Cond.code yX3_keep cX3_keep 3 none ∈ zWs := qt_2 _ (List.mem_of_getElem? (i := 184) rfl) rfl
theorem q_551 : Cond.methodLink RX3 78 arraycopyName ∈ zWs := qt_2 _ (List.mem_of_getElem? (i := 185) rfl) rfl
theorem q_552 : Cond.methodLink RX1 226 yX3_income ∈ zWs := qt_2 _ (List.mem_of_getElem? (i := 186) rfl) rfl
theorem q_553 : Cond.instanceMethod yX3_income ∈ zWs := qt_2 _ (List.mem_of_getElem? (i := 187) rfl) rfl
theorem q_554 : Cond.selects RX3 yX3_income yX3_income ∈ zWs := qt_2 _ (List.mem_of_getElem? (i := 188) rfl) rfl
theorem q_555 : Cond.code yX3_income cX3_income 1 (some .int) ∈ zWs := qt_2 _ (List.mem_of_getElem? (i := 189) rfl) rfl
theorem q_556 : Cond.methodLink RX3 68 yJ9_max_7cf53 ∈ zWs := qt_2 _ (List.mem_of_getElem? (i := 190) rfl) rfl
theorem q_557 : Cond.static yJ9_max_7cf53 ∈ zWs := qt_2 _ (List.mem_of_getElem? (i := 191) rfl) rfl
theorem q_558 : Cond.code yJ9_max_7cf53 cJ9_max_7cf53 2 (some .int) ∈ zWs := qt_2 _ (List.mem_of_getElem? (i := 192) rfl) rfl
theorem q_559 : Cond.methodLink RX1 198 yX1_payOut ∈ zWs := qt_2 _ (List.mem_of_getElem? (i := 193) rfl) rfl
theorem q_560 : Cond.instanceMethod yX1_payOut ∈ zWs := qt_2 _ (List.mem_of_getElem? (i := 195) rfl) rfl
theorem q_561 : Cond.selects RX1 yX1_payOut yX1_payOut ∈ zWs := qp_1 _ (List.mem_of_getElem? (i := 11) rfl)
theorem q_562 : Cond.code yX1_payOut cX1_payOut 4 none ∈ zWs := qt_2 _ (List.mem_of_getElem? (i := 196) rfl) rfl
theorem q_563 : Cond.methodLink RX1 204 yX0_rise ∈ zWs := qt_2 _ (List.mem_of_getElem? (i := 197) rfl) rfl
theorem q_564 : Cond.instanceMethod yX0_rise ∈ zWs := qt_2 _ (List.mem_of_getElem? (i := 198) rfl) rfl
theorem q_565 : Cond.selects RX0 yX0_rise yX0_rise ∈ zWs := qt_2 _ (List.mem_of_getElem? (i := 199) rfl) rfl
theorem q_566 : Cond.code yX0_rise cX0_rise 1 none ∈ zWs := qt_2 _ (List.mem_of_getElem? (i := 200) rfl) rfl
theorem q_567 : Cond.methodLink RX1 201 yX1_payUpkeep ∈ zWs := qt_2 _ (List.mem_of_getElem? (i := 201) rfl) rfl
theorem q_568 : Cond.instanceMethod yX1_payUpkeep ∈ zWs := qt_2 _ (List.mem_of_getElem? (i := 203) rfl) rfl
theorem q_569 : Cond.selects RX1 yX1_payUpkeep yX1_payUpkeep ∈ zWs := qp_1 _ (List.mem_of_getElem? (i := 12) rfl)
theorem q_570 : Cond.code yX1_payUpkeep cX1_payUpkeep 5 none ∈ zWs := qt_2 _ (List.mem_of_getElem? (i := 204) rfl) rfl
theorem q_571 : Cond.methodLink RX1 207 yJ9_min_7cf53 ∈ zWs := qt_2 _ (List.mem_of_getElem? (i := 205) rfl) rfl
theorem q_572 : Cond.methodLink RX1 213 yX1_payRest ∈ zWs := qt_2 _ (List.mem_of_getElem? (i := 206) rfl) rfl
theorem q_573 : Cond.instanceMethod yX1_payRest ∈ zWs := qt_2 _ (List.mem_of_getElem? (i := 208) rfl) rfl
theorem q_574 : Cond.selects RX1 yX1_payRest yX1_payRest ∈ zWs := qp_1 _ (List.mem_of_getElem? (i := 13) rfl)
theorem q_575 : Cond.code yX1_payRest cX1_payRest 5 (some .int) ∈ zWs := qt_2 _ (List.mem_of_getElem? (i := 209) rfl) rfl
theorem q_576 : Cond.methodLink RX1 216 yX1_cheapestHeld ∈ zWs := qt_2 _ (List.mem_of_getElem? (i := 210) rfl) rfl
theorem q_577 : Cond.instanceMethod yX1_cheapestHeld ∈ zWs := qt_2 _ (List.mem_of_getElem? (i := 212) rfl) rfl
theorem q_578 : Cond.selects RX1 yX1_cheapestHeld yX1_cheapestHeld ∈ zWs := qp_1 _ (List.mem_of_getElem? (i := 14) rfl)
theorem q_579 : Cond.code yX1_cheapestHeld cX1_cheapestHeld 5 (some .int) ∈ zWs := qt_2 _ (List.mem_of_getElem? (i := 213) rfl) rfl
theorem q_580 : Cond.methodLink RX1 219 yX1_sellShares ∈ zWs := qt_2 _ (List.mem_of_getElem? (i := 214) rfl) rfl
theorem q_581 : Cond.methodLink RL 120 yX6_operate ∈ zWs := qt_5 _ (List.mem_of_getElem? (i := 44) rfl) rfl
theorem q_582 : Cond.instanceMethod yX6_operate ∈ zWs := qt_5 _ (List.mem_of_getElem? (i := 45) rfl) rfl
theorem q_583 : Cond.selects RX6 yX6_operate yX6_operate ∈ zWs := qt_5 _ (List.mem_of_getElem? (i := 46) rfl) rfl
theorem q_584 : Cond.code yX6_operate cX6_operate 5 (some .int) ∈ zWs := qt_5 _ (List.mem_of_getElem? (i := 47) rfl) rfl
theorem q_585 : Cond.methodLink RX6 186 yX6_canOperate ∈ zWs := qt_5 _ (List.mem_of_getElem? (i := 48) rfl) rfl
theorem q_586 : Cond.instanceMethod yX6_canOperate ∈ zWs := qt_5 _ (List.mem_of_getElem? (i := 50) rfl) rfl
theorem q_587 : Cond.selects RX6 yX6_canOperate yX6_canOperate ∈ zWs := qp_3 _ (List.mem_of_getElem? (i := 13) rfl)
theorem q_588 : Cond.code yX6_canOperate cX6_canOperate 3 (some .boolean) ∈ zWs := qt_5 _ (List.mem_of_getElem? (i := 51) rfl) rfl
theorem q_589 : Cond.methodLink RX6 174 yX6_canLay ∈ zWs := qt_5 _ (List.mem_of_getElem? (i := 52) rfl) rfl
theorem q_590 : Cond.instanceMethod yX6_canLay ∈ zWs := qt_5 _ (List.mem_of_getElem? (i := 54) rfl) rfl
theorem q_591 : Cond.selects RX6 yX6_canLay yX6_canLay ∈ zWs := qp_3 _ (List.mem_of_getElem? (i := 14) rfl)
theorem q_592 : Cond.code yX6_canLay cX6_canLay 6 (some .boolean) ∈ zWs := qt_5 _ (List.mem_of_getElem? (i := 55) rfl) rfl
theorem q_593 : Cond.methodLink RX6 147 yX6_joined ∈ zWs := qt_5 _ (List.mem_of_getElem? (i := 56) rfl) rfl
theorem q_594 : Cond.instanceMethod yX6_joined ∈ zWs := qt_5 _ (List.mem_of_getElem? (i := 58) rfl) rfl
theorem q_595 : Cond.selects RX6 yX6_joined yX6_joined ∈ zWs := qp_3 _ (List.mem_of_getElem? (i := 15) rfl)
theorem q_596 : Cond.code yX6_joined cX6_joined 5 (some .int) ∈ zWs := qt_5 _ (List.mem_of_getElem? (i := 59) rfl) rfl
theorem q_597 : Cond.methodLink RX6 144 yX6_has ∈ zWs := qt_5 _ (List.mem_of_getElem? (i := 60) rfl) rfl
theorem q_598 : Cond.static yX6_has ∈ zWs := qt_5 _ (List.mem_of_getElem? (i := 61) rfl) rfl
theorem q_599 : Cond.code yX6_has cX6_has 2 (some .boolean) ∈ zWs := qt_5 _ (List.mem_of_getElem? (i := 62) rfl) rfl
theorem q_600 : Cond.methodLink RX6 150 yX6_level ∈ zWs := qt_5 _ (List.mem_of_getElem? (i := 63) rfl) rfl
theorem q_601 : Cond.instanceMethod yX6_level ∈ zWs := qt_5 _ (List.mem_of_getElem? (i := 65) rfl) rfl
theorem q_602 : Cond.selects RX6 yX6_level yX6_level ∈ zWs := qp_4 _ (List.mem_of_getElem? (i := 0) rfl)
theorem q_603 : Cond.code yX6_level cX6_level 3 (some .int) ∈ zWs := qt_5 _ (List.mem_of_getElem? (i := 66) rfl) rfl
theorem q_604 : Cond.methodLink RX6 189 yX6_operates ∈ zWs := qt_5 _ (List.mem_of_getElem? (i := 67) rfl) rfl
theorem q_605 : Cond.instanceMethod yX6_operates ∈ zWs := qt_5 _ (List.mem_of_getElem? (i := 69) rfl) rfl
theorem q_606 : Cond.selects RX6 yX6_operates yX6_operates ∈ zWs := qp_4 _ (List.mem_of_getElem? (i := 1) rfl)
theorem q_607 : Cond.code yX6_operates cX6_operates 7 (some .int) ∈ zWs := qt_5 _ (List.mem_of_getElem? (i := 70) rfl) rfl
theorem q_608 : Cond.methodLink RX6 177 yX6_levels ∈ zWs := qt_5 _ (List.mem_of_getElem? (i := 71) rfl) rfl
theorem q_609 : Cond.instanceMethod yX6_levels ∈ zWs := qt_5 _ (List.mem_of_getElem? (i := 73) rfl) rfl
theorem q_610 : Cond.selects RX6 yX6_levels yX6_levels ∈ zWs := qp_4 _ (List.mem_of_getElem? (i := 2) rfl)
theorem q_611 : Cond.code yX6_levels cX6_levels 4 none ∈ zWs := qt_5 _ (List.mem_of_getElem? (i := 74) rfl) rfl
theorem q_612 : Cond.methodLink RX6 180 yX6_income ∈ zWs := qt_5 _ (List.mem_of_getElem? (i := 75) rfl) rfl
theorem q_613 : Cond.instanceMethod yX6_income ∈ zWs := qt_5 _ (List.mem_of_getElem? (i := 77) rfl) rfl
theorem q_614 : Cond.selects RX6 yX6_income yX6_income ∈ zWs := qp_4 _ (List.mem_of_getElem? (i := 3) rfl)
theorem q_615 : Cond.code yX6_income cX6_income 2 (some .int) ∈ zWs := qt_5 _ (List.mem_of_getElem? (i := 78) rfl) rfl
theorem q_616 : Cond.fieldLink RX6 153 "StockLinesModel" "bestSum" "I" ∈ zWs := qt_4 _ (List.mem_of_getElem? (i := 82) rfl) rfl
theorem q_617 : Cond.methodLink RX6 165 yX6_findsRoute ∈ zWs := qt_5 _ (List.mem_of_getElem? (i := 79) rfl) rfl
theorem q_618 : Cond.instanceMethod yX6_findsRoute ∈ zWs := qt_5 _ (List.mem_of_getElem? (i := 81) rfl) rfl
theorem q_619 : Cond.selects RX6 yX6_findsRoute yX6_findsRoute ∈ zWs := qp_4 _ (List.mem_of_getElem? (i := 4) rfl)
theorem q_620 : Cond.code yX6_findsRoute cX6_findsRoute 6 none ∈ zWs := qt_5 _ (List.mem_of_getElem? (i := 82) rfl) rfl
theorem q_621 : Cond.fieldLink RX6 156 "StockLinesModel" "bestMany" "I" ∈ zWs := qt_4 _ (List.mem_of_getElem? (i := 81) rfl) rfl
theorem q_622 : Cond.methodLink RX6 159 yX6_comes ∈ zWs := qt_5 _ (List.mem_of_getElem? (i := 83) rfl) rfl
theorem q_623 : Cond.instanceMethod yX6_comes ∈ zWs := qt_5 _ (List.mem_of_getElem? (i := 85) rfl) rfl
theorem q_624 : Cond.selects RX6 yX6_comes yX6_comes ∈ zWs := qp_4 _ (List.mem_of_getElem? (i := 5) rfl)
theorem q_625 : Cond.code yX6_comes cX6_comes 4 none ∈ zWs := qt_5 _ (List.mem_of_getElem? (i := 86) rfl) rfl
theorem q_626 : Cond.methodLink RX6 162 yX6_keepsBest ∈ zWs := qt_5 _ (List.mem_of_getElem? (i := 87) rfl) rfl
theorem q_627 : Cond.instanceMethod yX6_keepsBest ∈ zWs := qt_5 _ (List.mem_of_getElem? (i := 89) rfl) rfl
theorem q_628 : Cond.selects RX6 yX6_keepsBest yX6_keepsBest ∈ zWs := qp_4 _ (List.mem_of_getElem? (i := 6) rfl)
theorem q_629 : Cond.code yX6_keepsBest cX6_keepsBest 3 none ∈ zWs := qt_5 _ (List.mem_of_getElem? (i := 90) rfl) rfl
theorem q_630 : Cond.methodLink RX6 183 yX6_upkeep ∈ zWs := qt_5 _ (List.mem_of_getElem? (i := 91) rfl) rfl
theorem q_631 : Cond.instanceMethod yX6_upkeep ∈ zWs := qt_5 _ (List.mem_of_getElem? (i := 93) rfl) rfl
theorem q_632 : Cond.selects RX6 yX6_upkeep yX6_upkeep ∈ zWs := qp_4 _ (List.mem_of_getElem? (i := 7) rfl)
theorem q_633 : Cond.code yX6_upkeep cX6_upkeep 4 none ∈ zWs := qt_5 _ (List.mem_of_getElem? (i := 94) rfl) rfl
theorem q_634 : Cond.methodLink RX6 171 yX6_isPaid ∈ zWs := qt_5 _ (List.mem_of_getElem? (i := 95) rfl) rfl
theorem q_635 : Cond.instanceMethod yX6_isPaid ∈ zWs := qt_5 _ (List.mem_of_getElem? (i := 97) rfl) rfl
theorem q_636 : Cond.selects RX6 yX6_isPaid yX6_isPaid ∈ zWs := qp_4 _ (List.mem_of_getElem? (i := 8) rfl)
theorem q_637 : Cond.code yX6_isPaid cX6_isPaid 6 (some .boolean) ∈ zWs := qt_5 _ (List.mem_of_getElem? (i := 98) rfl) rfl
theorem q_638 : Cond.methodLink RX6 168 yX6_cheapest ∈ zWs := qt_5 _ (List.mem_of_getElem? (i := 99) rfl) rfl
theorem q_639 : Cond.instanceMethod yX6_cheapest ∈ zWs := qt_5 _ (List.mem_of_getElem? (i := 101) rfl) rfl
theorem q_640 : Cond.selects RX6 yX6_cheapest yX6_cheapest ∈ zWs := qp_4 _ (List.mem_of_getElem? (i := 9) rfl)
theorem q_641 : Cond.code yX6_cheapest cX6_cheapest 5 (some .int) ∈ zWs := qt_5 _ (List.mem_of_getElem? (i := 102) rfl) rfl
theorem q_642 : Cond.methodLink RL 121 yL_player ∈ zWs := qt_3 _ (List.mem_of_getElem? (i := 218) rfl) rfl
theorem q_643 : Cond.static yL_player ∈ zWs := qt_3 _ (List.mem_of_getElem? (i := 219) rfl) rfl
theorem q_644 : Cond.codeWith yL_player cL_player 5 (some .int) [(0, 10, 13, 19), (0, 10, 17, 13)] ∈ zWs := qt_3 _ (List.mem_of_getElem? (i := 220) rfl) rfl
theorem q_645 : Cond.methodLink RL 47 yX5_player ∈ zWs := qt_3 _ (List.mem_of_getElem? (i := 221) rfl) rfl
theorem q_646 : Cond.instanceMethod yX5_player ∈ zWs := qt_3 _ (List.mem_of_getElem? (i := 62) rfl) rfl
theorem q_647 : Cond.selects RX5 yX5_player yX5_player ∈ zWs := qt_3 _ (List.mem_of_getElem? (i := 63) rfl) rfl
theorem q_648 : Cond.code yX5_player cX5_player 3 (some .int) ∈ zWs := qt_3 _ (List.mem_of_getElem? (i := 64) rfl) rfl
theorem q_649 : Cond.fieldLink RX5 136 "StockLines$Game" "players" "I" ∈ zWs := qt_1 _ (List.mem_of_getElem? (i := 155) rfl) rfl
theorem q_650 : Cond.fieldLink RX5 139 "StockLines$Company" "held" "[I" ∈ zWs := qt_1 _ (List.mem_of_getElem? (i := 92) rfl) rfl
theorem q_651 : Cond.methodLink RX5 142 yX1_worthOf ∈ zWs := qt_1 _ (List.mem_of_getElem? (i := 228) rfl) rfl
theorem q_652 : Cond.instanceMethod yX1_worthOf ∈ zWs := qt_1 _ (List.mem_of_getElem? (i := 229) rfl) rfl
theorem q_653 : Cond.selects RX1 yX1_worthOf yX1_worthOf ∈ zWs := qt_1 _ (List.mem_of_getElem? (i := 230) rfl) rfl
theorem q_654 : Cond.code yX1_worthOf cX1_worthOf 4 (some .int) ∈ zWs := qt_1 _ (List.mem_of_getElem? (i := 231) rfl) rfl
theorem q_655 : Cond.methodLink RX5 145 yX1_presidenciesOf ∈ zWs := qt_3 _ (List.mem_of_getElem? (i := 80) rfl) rfl
theorem q_656 : Cond.instanceMethod yX1_presidenciesOf ∈ zWs := qt_3 _ (List.mem_of_getElem? (i := 81) rfl) rfl
theorem q_657 : Cond.selects RX1 yX1_presidenciesOf yX1_presidenciesOf ∈ zWs := qt_3 _ (List.mem_of_getElem? (i := 82) rfl) rfl
theorem q_658 : Cond.code yX1_presidenciesOf cX1_presidenciesOf 4 (some .int) ∈ zWs := qt_3 _ (List.mem_of_getElem? (i := 83) rfl) rfl
theorem q_659 : Cond.methodLink RL 123 yX6_player ∈ zWs := qt_5 _ (List.mem_of_getElem? (i := 103) rfl) rfl
theorem q_660 : Cond.instanceMethod yX6_player ∈ zWs := qt_5 _ (List.mem_of_getElem? (i := 104) rfl) rfl
theorem q_661 : Cond.selects RX6 yX6_player yX6_player ∈ zWs := qt_5 _ (List.mem_of_getElem? (i := 105) rfl) rfl
theorem q_662 : Cond.code yX6_player cX6_player 3 (some .int) ∈ zWs := qt_5 _ (List.mem_of_getElem? (i := 106) rfl) rfl
theorem q_663 : Cond.methodLink RX6 199 yX6_isPlayer ∈ zWs := qt_5 _ (List.mem_of_getElem? (i := 107) rfl) rfl
theorem q_664 : Cond.instanceMethod yX6_isPlayer ∈ zWs := qt_5 _ (List.mem_of_getElem? (i := 109) rfl) rfl
theorem q_665 : Cond.selects RX6 yX6_isPlayer yX6_isPlayer ∈ zWs := qp_4 _ (List.mem_of_getElem? (i := 10) rfl)
theorem q_666 : Cond.code yX6_isPlayer cX6_isPlayer 2 (some .boolean) ∈ zWs := qt_5 _ (List.mem_of_getElem? (i := 110) rfl) rfl
theorem q_667 : Cond.methodLink RX6 202 yX6_tellPlayer ∈ zWs := qt_5 _ (List.mem_of_getElem? (i := 111) rfl) rfl
theorem q_668 : Cond.instanceMethod yX6_tellPlayer ∈ zWs := qt_5 _ (List.mem_of_getElem? (i := 113) rfl) rfl
theorem q_669 : Cond.selects RX6 yX6_tellPlayer yX6_tellPlayer ∈ zWs := qp_4 _ (List.mem_of_getElem? (i := 11) rfl)
theorem q_670 : Cond.code yX6_tellPlayer cX6_tellPlayer 3 (some .int) ∈ zWs := qt_5 _ (List.mem_of_getElem? (i := 114) rfl) rfl
theorem q_671 : Cond.methodLink RX6 193 yX6_worth ∈ zWs := qt_5 _ (List.mem_of_getElem? (i := 115) rfl) rfl
theorem q_672 : Cond.instanceMethod yX6_worth ∈ zWs := qt_5 _ (List.mem_of_getElem? (i := 117) rfl) rfl
theorem q_673 : Cond.selects RX6 yX6_worth yX6_worth ∈ zWs := qp_4 _ (List.mem_of_getElem? (i := 12) rfl)
theorem q_674 : Cond.code yX6_worth cX6_worth 4 (some .int) ∈ zWs := qt_5 _ (List.mem_of_getElem? (i := 118) rfl) rfl
theorem q_675 : Cond.methodLink RX6 196 yX6_presidencies ∈ zWs := qt_5 _ (List.mem_of_getElem? (i := 119) rfl) rfl
theorem q_676 : Cond.instanceMethod yX6_presidencies ∈ zWs := qt_5 _ (List.mem_of_getElem? (i := 121) rfl) rfl
theorem q_677 : Cond.selects RX6 yX6_presidencies yX6_presidencies ∈ zWs := qp_4 _ (List.mem_of_getElem? (i := 13) rfl)
theorem q_678 : Cond.code yX6_presidencies cX6_presidencies 4 (some .int) ∈ zWs := qt_5 _ (List.mem_of_getElem? (i := 122) rfl) rfl
theorem q_679 : Cond.methodLink RL 124 yL_company ∈ zWs := qt_3 _ (List.mem_of_getElem? (i := 222) rfl) rfl
theorem q_680 : Cond.static yL_company ∈ zWs := qt_3 _ (List.mem_of_getElem? (i := 223) rfl) rfl
theorem q_681 : Cond.codeWith yL_company cL_company 5 (some .int) [(0, 10, 13, 19), (0, 10, 17, 13)] ∈ zWs := qt_3 _ (List.mem_of_getElem? (i := 224) rfl) rfl
theorem q_682 : Cond.methodLink RL 50 yX5_company ∈ zWs := qt_3 _ (List.mem_of_getElem? (i := 225) rfl) rfl
theorem q_683 : Cond.instanceMethod yX5_company ∈ zWs := qt_3 _ (List.mem_of_getElem? (i := 85) rfl) rfl
theorem q_684 : Cond.selects RX5 yX5_company yX5_company ∈ zWs := qt_3 _ (List.mem_of_getElem? (i := 86) rfl) rfl
theorem q_685 : Cond.code yX5_company cX5_company 4 (some .int) ∈ zWs := qt_3 _ (List.mem_of_getElem? (i := 87) rfl) rfl
theorem q_686 : Cond.fieldLink RX5 148 "StockLines$Company" "open" "Z" ∈ zWs := qt_1 _ (List.mem_of_getElem? (i := 95) rfl) rfl
theorem q_687 : Cond.methodLink RX5 151 yX1_incomeOf ∈ zWs := qt_3 _ (List.mem_of_getElem? (i := 88) rfl) rfl
theorem q_688 : Cond.methodLink RX5 155 yX0_number ∈ zWs := qt_3 _ (List.mem_of_getElem? (i := 89) rfl) rfl
theorem q_689 : Cond.instanceMethod yX0_number ∈ zWs := qt_3 _ (List.mem_of_getElem? (i := 90) rfl) rfl
theorem q_690 : Cond.selects RX0 yX0_number yX0_number ∈ zWs := qt_3 _ (List.mem_of_getElem? (i := 91) rfl) rfl
theorem q_691 : Cond.code yX0_number cX0_number 2 (some .int) ∈ zWs := qt_3 _ (List.mem_of_getElem? (i := 92) rfl) rfl
theorem q_692 : Cond.methodLink RX0 54 yX0_price ∈ zWs := qt_3 _ (List.mem_of_getElem? (i := 93) rfl) rfl
theorem q_693 : Cond.methodLink RX0 58 yX0_bankShares ∈ zWs := qt_3 _ (List.mem_of_getElem? (i := 94) rfl) rfl
theorem q_694 : Cond.methodLink RL 126 yX6_company ∈ zWs := qt_5 _ (List.mem_of_getElem? (i := 123) rfl) rfl
theorem q_695 : Cond.instanceMethod yX6_company ∈ zWs := qt_5 _ (List.mem_of_getElem? (i := 124) rfl) rfl
theorem q_696 : Cond.selects RX6 yX6_company yX6_company ∈ zWs := qt_5 _ (List.mem_of_getElem? (i := 125) rfl) rfl
theorem q_697 : Cond.code yX6_company cX6_company 3 (some .int) ∈ zWs := qt_5 _ (List.mem_of_getElem? (i := 126) rfl) rfl
theorem q_698 : Cond.methodLink RX6 205 yX6_tellCompany ∈ zWs := qt_5 _ (List.mem_of_getElem? (i := 127) rfl) rfl
theorem q_699 : Cond.instanceMethod yX6_tellCompany ∈ zWs := qt_5 _ (List.mem_of_getElem? (i := 129) rfl) rfl
theorem q_700 : Cond.selects RX6 yX6_tellCompany yX6_tellCompany ∈ zWs := qp_4 _ (List.mem_of_getElem? (i := 14) rfl)
theorem q_701 : Cond.code yX6_tellCompany cX6_tellCompany 3 (some .int) ∈ zWs := qt_5 _ (List.mem_of_getElem? (i := 130) rfl) rfl
theorem q_702 : Cond.methodLink RL 127 yL_track ∈ zWs := qt_3 _ (List.mem_of_getElem? (i := 226) rfl) rfl
theorem q_703 : Cond.static yL_track ∈ zWs := qt_3 _ (List.mem_of_getElem? (i := 227) rfl) rfl
theorem q_704 : Cond.codeWith yL_track cL_track 5 (some .int) [(0, 10, 13, 19)] ∈ zWs := qt_3 _ (List.mem_of_getElem? (i := 228) rfl) rfl
theorem q_705 : Cond.methodLink RL 53 yX5_track ∈ zWs := qt_3 _ (List.mem_of_getElem? (i := 229) rfl) rfl
theorem q_706 : Cond.instanceMethod yX5_track ∈ zWs := qt_3 _ (List.mem_of_getElem? (i := 96) rfl) rfl
theorem q_707 : Cond.selects RX5 yX5_track yX5_track ∈ zWs := qt_3 _ (List.mem_of_getElem? (i := 97) rfl) rfl
theorem q_708 : Cond.code yX5_track cX5_track 3 (some .int) ∈ zWs := qt_3 _ (List.mem_of_getElem? (i := 98) rfl) rfl
theorem q_709 : Cond.fieldLink RX5 158 "StockLines$Land" "level" "[[I" ∈ zWs := qt_1 _ (List.mem_of_getElem? (i := 76) rfl) rfl
theorem q_710 : Cond.methodLink RL 129 yX6_track ∈ zWs := qt_5 _ (List.mem_of_getElem? (i := 131) rfl) rfl
theorem q_711 : Cond.instanceMethod yX6_track ∈ zWs := qt_5 _ (List.mem_of_getElem? (i := 132) rfl) rfl
theorem q_712 : Cond.selects RX6 yX6_track yX6_track ∈ zWs := qt_5 _ (List.mem_of_getElem? (i := 133) rfl) rfl
theorem q_713 : Cond.code yX6_track cX6_track 3 (some .int) ∈ zWs := qt_5 _ (List.mem_of_getElem? (i := 134) rfl) rfl
theorem q_714 : Cond.methodLink RL 130 yL_value ∈ zWs := qt_3 _ (List.mem_of_getElem? (i := 230) rfl) rfl
theorem q_715 : Cond.static yL_value ∈ zWs := qt_3 _ (List.mem_of_getElem? (i := 231) rfl) rfl
theorem q_716 : Cond.codeWith yL_value cL_value 4 (some .int) [(0, 9, 12, 13)] ∈ zWs := qt_3 _ (List.mem_of_getElem? (i := 232) rfl) rfl
theorem q_717 : Cond.methodLink RL 56 yX5_value ∈ zWs := qt_3 _ (List.mem_of_getElem? (i := 233) rfl) rfl
theorem q_718 : Cond.instanceMethod yX5_value ∈ zWs := qt_2 _ (List.mem_of_getElem? (i := 226) rfl) rfl
theorem q_719 : Cond.selects RX5 yX5_value yX5_value ∈ zWs := qt_2 _ (List.mem_of_getElem? (i := 227) rfl) rfl
theorem q_720 : Cond.code yX5_value cX5_value 2 (some .int) ∈ zWs := qt_2 _ (List.mem_of_getElem? (i := 228) rfl) rfl
theorem q_721 : Cond.methodLink RX5 162 yX1_number ∈ zWs := qt_3 _ (List.mem_of_getElem? (i := 52) rfl) rfl
theorem q_722 : Cond.instanceMethod yX1_number ∈ zWs := qt_3 _ (List.mem_of_getElem? (i := 53) rfl) rfl
theorem q_723 : Cond.selects RX1 yX1_number yX1_number ∈ zWs := qt_3 _ (List.mem_of_getElem? (i := 54) rfl) rfl
theorem q_724 : Cond.code yX1_number cX1_number 2 (some .int) ∈ zWs := qt_3 _ (List.mem_of_getElem? (i := 55) rfl) rfl
theorem q_725 : Cond.methodLink RX1 236 yX2_tracks ∈ zWs := qt_3 _ (List.mem_of_getElem? (i := 56) rfl) rfl
theorem q_726 : Cond.instanceMethod yX2_tracks ∈ zWs := qt_3 _ (List.mem_of_getElem? (i := 57) rfl) rfl
theorem q_727 : Cond.selects RX2 yX2_tracks yX2_tracks ∈ zWs := qt_3 _ (List.mem_of_getElem? (i := 58) rfl) rfl
theorem q_728 : Cond.code yX2_tracks cX2_tracks 4 (some .int) ∈ zWs := qt_3 _ (List.mem_of_getElem? (i := 59) rfl) rfl
theorem q_729 : Cond.methodLink RX1 239 yX1_openCompanies ∈ zWs := qt_3 _ (List.mem_of_getElem? (i := 60) rfl) rfl
theorem q_730 : Cond.instanceMethod yX1_openCompanies ∈ zWs := qt_2 _ (List.mem_of_getElem? (i := 4) rfl) rfl
theorem q_731 : Cond.selects RX1 yX1_openCompanies yX1_openCompanies ∈ zWs := qt_2 _ (List.mem_of_getElem? (i := 5) rfl) rfl
theorem q_732 : Cond.code yX1_openCompanies cX1_openCompanies 3 (some .int) ∈ zWs := qt_2 _ (List.mem_of_getElem? (i := 6) rfl) rfl
theorem q_733 : Cond.methodLink RL 132 yX6_value ∈ zWs := qt_5 _ (List.mem_of_getElem? (i := 135) rfl) rfl
theorem q_734 : Cond.instanceMethod yX6_value ∈ zWs := qt_5 _ (List.mem_of_getElem? (i := 136) rfl) rfl
theorem q_735 : Cond.selects RX6 yX6_value yX6_value ∈ zWs := qt_5 _ (List.mem_of_getElem? (i := 137) rfl) rfl
theorem q_736 : Cond.code yX6_value cX6_value 2 (some .int) ∈ zWs := qt_5 _ (List.mem_of_getElem? (i := 138) rfl) rfl
theorem q_737 : Cond.methodLink RX6 214 yX6_tellValue ∈ zWs := qt_5 _ (List.mem_of_getElem? (i := 139) rfl) rfl
theorem q_738 : Cond.instanceMethod yX6_tellValue ∈ zWs := qt_5 _ (List.mem_of_getElem? (i := 141) rfl) rfl
theorem q_739 : Cond.selects RX6 yX6_tellValue yX6_tellValue ∈ zWs := qp_4 _ (List.mem_of_getElem? (i := 15) rfl)
theorem q_740 : Cond.code yX6_tellValue cX6_tellValue 2 (some .int) ∈ zWs := qt_5 _ (List.mem_of_getElem? (i := 142) rfl) rfl
theorem q_741 : Cond.methodLink RX6 208 yX6_tracks ∈ zWs := qt_5 _ (List.mem_of_getElem? (i := 143) rfl) rfl
theorem q_742 : Cond.instanceMethod yX6_tracks ∈ zWs := qt_5 _ (List.mem_of_getElem? (i := 145) rfl) rfl
theorem q_743 : Cond.selects RX6 yX6_tracks yX6_tracks ∈ zWs := qp_5 _ (List.mem_of_getElem? (i := 0) rfl)
theorem q_744 : Cond.code yX6_tracks cX6_tracks 3 (some .int) ∈ zWs := qt_5 _ (List.mem_of_getElem? (i := 146) rfl) rfl
theorem q_745 : Cond.methodLink RX6 211 yX6_openOnes ∈ zWs := qt_5 _ (List.mem_of_getElem? (i := 147) rfl) rfl
theorem q_746 : Cond.instanceMethod yX6_openOnes ∈ zWs := qt_5 _ (List.mem_of_getElem? (i := 149) rfl) rfl
theorem q_747 : Cond.selects RX6 yX6_openOnes yX6_openOnes ∈ zWs := qp_5 _ (List.mem_of_getElem? (i := 1) rfl)
theorem q_748 : Cond.code yX6_openOnes cX6_openOnes 3 (some .int) ∈ zWs := qt_5 _ (List.mem_of_getElem? (i := 150) rfl) rfl
theorem q_749 : Cond.methodLink RL 133 yL_town ∈ zWs := qt_3 _ (List.mem_of_getElem? (i := 234) rfl) rfl
theorem q_750 : Cond.static yL_town ∈ zWs := qt_3 _ (List.mem_of_getElem? (i := 235) rfl) rfl
theorem q_751 : Cond.codeWith yL_town cL_town 4 (some .int) [(0, 9, 12, 19)] ∈ zWs := qt_3 _ (List.mem_of_getElem? (i := 236) rfl) rfl
theorem q_752 : Cond.methodLink RL 59 yX5_town ∈ zWs := qt_3 _ (List.mem_of_getElem? (i := 237) rfl) rfl
theorem q_753 : Cond.instanceMethod yX5_town ∈ zWs := qt_3 _ (List.mem_of_getElem? (i := 101) rfl) rfl
theorem q_754 : Cond.selects RX5 yX5_town yX5_town ∈ zWs := qt_3 _ (List.mem_of_getElem? (i := 102) rfl) rfl
theorem q_755 : Cond.code yX5_town cX5_town 2 (some .int) ∈ zWs := qt_3 _ (List.mem_of_getElem? (i := 103) rfl) rfl
theorem q_756 : Cond.methodLink RL 135 yX6_town ∈ zWs := qt_5 _ (List.mem_of_getElem? (i := 151) rfl) rfl
theorem q_757 : Cond.instanceMethod yX6_town ∈ zWs := qt_5 _ (List.mem_of_getElem? (i := 152) rfl) rfl
theorem q_758 : Cond.selects RX6 yX6_town yX6_town ∈ zWs := qt_5 _ (List.mem_of_getElem? (i := 153) rfl) rfl
theorem q_759 : Cond.code yX6_town cX6_town 2 (some .int) ∈ zWs := qt_5 _ (List.mem_of_getElem? (i := 154) rfl) rfl
theorem q_760 : Cond.methodLink RL 136 yL_route ∈ zWs := qt_3 _ (List.mem_of_getElem? (i := 238) rfl) rfl
theorem q_761 : Cond.static yL_route ∈ zWs := qt_3 _ (List.mem_of_getElem? (i := 239) rfl) rfl
theorem q_762 : Cond.codeWith yL_route cL_route 5 (some .int) [(0, 10, 13, 19)] ∈ zWs := qt_4 _ (List.mem_of_getElem? (i := 0) rfl) rfl
theorem q_763 : Cond.methodLink RL 62 yX5_route ∈ zWs := qt_4 _ (List.mem_of_getElem? (i := 1) rfl) rfl
theorem q_764 : Cond.instanceMethod yX5_route ∈ zWs := qt_4 _ (List.mem_of_getElem? (i := 2) rfl) rfl
theorem q_765 : Cond.selects RX5 yX5_route yX5_route ∈ zWs := qt_4 _ (List.mem_of_getElem? (i := 3) rfl) rfl
theorem q_766 : Cond.code yX5_route cX5_route 3 (some .int) ∈ zWs := qt_4 _ (List.mem_of_getElem? (i := 4) rfl) rfl
theorem q_767 : Cond.methodLink RX5 163 yX1_routeTown ∈ zWs := qt_4 _ (List.mem_of_getElem? (i := 5) rfl) rfl
theorem q_768 : Cond.instanceMethod yX1_routeTown ∈ zWs := qt_4 _ (List.mem_of_getElem? (i := 6) rfl) rfl
theorem q_769 : Cond.selects RX1 yX1_routeTown yX1_routeTown ∈ zWs := qt_4 _ (List.mem_of_getElem? (i := 7) rfl) rfl
theorem q_770 : Cond.code yX1_routeTown cX1_routeTown 3 (some .int) ∈ zWs := qt_4 _ (List.mem_of_getElem? (i := 8) rfl) rfl
theorem q_771 : Cond.methodLink RX1 233 yX3_routeTown ∈ zWs := qt_4 _ (List.mem_of_getElem? (i := 9) rfl) rfl
theorem q_772 : Cond.instanceMethod yX3_routeTown ∈ zWs := qt_4 _ (List.mem_of_getElem? (i := 10) rfl) rfl
theorem q_773 : Cond.selects RX3 yX3_routeTown yX3_routeTown ∈ zWs := qt_4 _ (List.mem_of_getElem? (i := 11) rfl) rfl
theorem q_774 : Cond.code yX3_routeTown cX3_routeTown 2 (some .int) ∈ zWs := qt_4 _ (List.mem_of_getElem? (i := 12) rfl) rfl
theorem q_775 : Cond.methodLink RL 138 yX6_route ∈ zWs := qt_5 _ (List.mem_of_getElem? (i := 155) rfl) rfl
theorem q_776 : Cond.instanceMethod yX6_route ∈ zWs := qt_5 _ (List.mem_of_getElem? (i := 156) rfl) rfl
theorem q_777 : Cond.selects RX6 yX6_route yX6_route ∈ zWs := qt_5 _ (List.mem_of_getElem? (i := 157) rfl) rfl
theorem q_778 : Cond.code yX6_route cX6_route 3 (some .int) ∈ zWs := qt_5 _ (List.mem_of_getElem? (i := 158) rfl) rfl
theorem q_779 : Cond.methodLink RL 139 yL_incomeWith ∈ zWs := qt_4 _ (List.mem_of_getElem? (i := 13) rfl) rfl
theorem q_780 : Cond.static yL_incomeWith ∈ zWs := qt_4 _ (List.mem_of_getElem? (i := 14) rfl) rfl
theorem q_781 : Cond.codeWith yL_incomeWith cL_incomeWith 6 (some .int) [(0, 12, 15, 19), (0, 12, 19, 13)] ∈ zWs := qt_4 _ (List.mem_of_getElem? (i := 15) rfl) rfl
theorem q_782 : Cond.methodLink RL 65 yX5_incomeWith ∈ zWs := qt_4 _ (List.mem_of_getElem? (i := 16) rfl) rfl
theorem q_783 : Cond.instanceMethod yX5_incomeWith ∈ zWs := qt_4 _ (List.mem_of_getElem? (i := 17) rfl) rfl
theorem q_784 : Cond.selects RX5 yX5_incomeWith yX5_incomeWith ∈ zWs := qt_4 _ (List.mem_of_getElem? (i := 18) rfl) rfl
theorem q_785 : Cond.code yX5_incomeWith cX5_incomeWith 5 (some .int) ∈ zWs := qt_4 _ (List.mem_of_getElem? (i := 19) rfl) rfl
theorem q_786 : Cond.methodLink RX5 167 yX1_incomeIfRaised ∈ zWs := qt_4 _ (List.mem_of_getElem? (i := 20) rfl) rfl
theorem q_787 : Cond.instanceMethod yX1_incomeIfRaised ∈ zWs := qt_4 _ (List.mem_of_getElem? (i := 21) rfl) rfl
theorem q_788 : Cond.selects RX1 yX1_incomeIfRaised yX1_incomeIfRaised ∈ zWs := qt_4 _ (List.mem_of_getElem? (i := 22) rfl) rfl
theorem q_789 : Cond.code yX1_incomeIfRaised cX1_incomeIfRaised 6 (some .int) ∈ zWs := qt_4 _ (List.mem_of_getElem? (i := 23) rfl) rfl
theorem q_790 : Cond.methodLink RL 141 yX6_incomeWith ∈ zWs := qt_5 _ (List.mem_of_getElem? (i := 159) rfl) rfl
theorem q_791 : Cond.instanceMethod yX6_incomeWith ∈ zWs := qt_5 _ (List.mem_of_getElem? (i := 160) rfl) rfl
theorem q_792 : Cond.selects RX6 yX6_incomeWith yX6_incomeWith ∈ zWs := qt_5 _ (List.mem_of_getElem? (i := 161) rfl) rfl
theorem q_793 : Cond.code yX6_incomeWith cX6_incomeWith 4 (some .int) ∈ zWs := qt_5 _ (List.mem_of_getElem? (i := 162) rfl) rfl
theorem q_794 : Cond.methodLink RX6 217 yX6_incomeBy ∈ zWs := qt_5 _ (List.mem_of_getElem? (i := 163) rfl) rfl
theorem q_795 : Cond.instanceMethod yX6_incomeBy ∈ zWs := qt_5 _ (List.mem_of_getElem? (i := 165) rfl) rfl
theorem q_796 : Cond.selects RX6 yX6_incomeBy yX6_incomeBy ∈ zWs := qp_5 _ (List.mem_of_getElem? (i := 2) rfl)
theorem q_797 : Cond.code yX6_incomeBy cX6_incomeBy 6 (some .int) ∈ zWs := qt_5 _ (List.mem_of_getElem? (i := 166) rfl) rfl
theorem q_798 : Cond.methodLink RL 142 yL_bestTrack ∈ zWs := qt_4 _ (List.mem_of_getElem? (i := 24) rfl) rfl
theorem q_799 : Cond.static yL_bestTrack ∈ zWs := qt_4 _ (List.mem_of_getElem? (i := 25) rfl) rfl
theorem q_800 : Cond.codeWith yL_bestTrack cL_bestTrack 4 (some .int) [(0, 9, 12, 19)] ∈ zWs := qt_4 _ (List.mem_of_getElem? (i := 26) rfl) rfl
theorem q_801 : Cond.methodLink RL 68 yX5_bestTrack ∈ zWs := qt_4 _ (List.mem_of_getElem? (i := 27) rfl) rfl
theorem q_802 : Cond.instanceMethod yX5_bestTrack ∈ zWs := qt_4 _ (List.mem_of_getElem? (i := 28) rfl) rfl
theorem q_803 : Cond.selects RX5 yX5_bestTrack yX5_bestTrack ∈ zWs := qt_4 _ (List.mem_of_getElem? (i := 29) rfl) rfl
theorem q_804 : Cond.code yX5_bestTrack cX5_bestTrack 2 (some .int) ∈ zWs := qt_4 _ (List.mem_of_getElem? (i := 30) rfl) rfl
theorem q_805 : Cond.methodLink RX5 171 yX1_bestTrackOf ∈ zWs := qt_4 _ (List.mem_of_getElem? (i := 31) rfl) rfl
theorem q_806 : Cond.instanceMethod yX1_bestTrackOf ∈ zWs := qt_4 _ (List.mem_of_getElem? (i := 32) rfl) rfl
theorem q_807 : Cond.selects RX1 yX1_bestTrackOf yX1_bestTrackOf ∈ zWs := qt_4 _ (List.mem_of_getElem? (i := 33) rfl) rfl
theorem q_808 : Cond.code yX1_bestTrackOf cX1_bestTrackOf 7 (some .int) ∈ zWs := qt_4 _ (List.mem_of_getElem? (i := 34) rfl) rfl
theorem q_809 : Cond.methodLink RX1 229 yX1_incomeIfRaised ∈ zWs := qt_4 _ (List.mem_of_getElem? (i := 35) rfl) rfl
theorem q_810 : Cond.methodLink RL 144 yX6_bestTrack ∈ zWs := qt_5 _ (List.mem_of_getElem? (i := 167) rfl) rfl
theorem q_811 : Cond.instanceMethod yX6_bestTrack ∈ zWs := qt_5 _ (List.mem_of_getElem? (i := 168) rfl) rfl
theorem q_812 : Cond.selects RX6 yX6_bestTrack yX6_bestTrack ∈ zWs := qt_5 _ (List.mem_of_getElem? (i := 169) rfl) rfl
theorem q_813 : Cond.code yX6_bestTrack cX6_bestTrack 9 (some .int) ∈ zWs := qt_5 _ (List.mem_of_getElem? (i := 170) rfl) rfl
theorem q_814 : Cond.methodLink RL 145 yL_dividend ∈ zWs := qt_4 _ (List.mem_of_getElem? (i := 36) rfl) rfl
theorem q_815 : Cond.static yL_dividend ∈ zWs := qt_4 _ (List.mem_of_getElem? (i := 37) rfl) rfl
theorem q_816 : Cond.codeWith yL_dividend cL_dividend 4 (some .int) [(0, 9, 12, 19)] ∈ zWs := qt_4 _ (List.mem_of_getElem? (i := 38) rfl) rfl
theorem q_817 : Cond.methodLink RL 71 yX5_dividend ∈ zWs := qt_4 _ (List.mem_of_getElem? (i := 39) rfl) rfl
theorem q_818 : Cond.instanceMethod yX5_dividend ∈ zWs := qt_4 _ (List.mem_of_getElem? (i := 40) rfl) rfl
theorem q_819 : Cond.selects RX5 yX5_dividend yX5_dividend ∈ zWs := qt_4 _ (List.mem_of_getElem? (i := 41) rfl) rfl
theorem q_820 : Cond.code yX5_dividend cX5_dividend 3 (some .int) ∈ zWs := qt_4 _ (List.mem_of_getElem? (i := 42) rfl) rfl
theorem q_821 : Cond.methodLink RL 147 yX6_dividend ∈ zWs := qt_5 _ (List.mem_of_getElem? (i := 171) rfl) rfl
theorem q_822 : Cond.instanceMethod yX6_dividend ∈ zWs := qt_5 _ (List.mem_of_getElem? (i := 172) rfl) rfl
theorem q_823 : Cond.selects RX6 yX6_dividend yX6_dividend ∈ zWs := qt_5 _ (List.mem_of_getElem? (i := 173) rfl) rfl
theorem q_824 : Cond.code yX6_dividend cX6_dividend 2 (some .int) ∈ zWs := qt_5 _ (List.mem_of_getElem? (i := 174) rfl) rfl
theorem q_825 : Cond.methodLink RL 148 yX5_leader ∈ zWs := qt_1 _ (List.mem_of_getElem? (i := 224) rfl) rfl
theorem q_826 : Cond.instanceMethod yX5_leader ∈ zWs := qt_1 _ (List.mem_of_getElem? (i := 225) rfl) rfl
theorem q_827 : Cond.selects RX5 yX5_leader yX5_leader ∈ zWs := qt_1 _ (List.mem_of_getElem? (i := 226) rfl) rfl
theorem q_828 : Cond.code yX5_leader cX5_leader 3 (some .int) ∈ zWs := qt_1 _ (List.mem_of_getElem? (i := 227) rfl) rfl
theorem q_829 : Cond.methodLink RL 151 yX6_leader ∈ zWs := qt_5 _ (List.mem_of_getElem? (i := 175) rfl) rfl
theorem q_830 : Cond.instanceMethod yX6_leader ∈ zWs := qt_5 _ (List.mem_of_getElem? (i := 176) rfl) rfl
theorem q_831 : Cond.selects RX6 yX6_leader yX6_leader ∈ zWs := qt_5 _ (List.mem_of_getElem? (i := 177) rfl) rfl
theorem q_832 : Cond.code yX6_leader cX6_leader 3 (some .int) ∈ zWs := qt_5 _ (List.mem_of_getElem? (i := 178) rfl) rfl
theorem q_833 : Cond.methodLink RL 152 yX5_unsold ∈ zWs := qt_1 _ (List.mem_of_getElem? (i := 239) rfl) rfl
theorem q_834 : Cond.instanceMethod yX5_unsold ∈ zWs := qt_2 _ (List.mem_of_getElem? (i := 0) rfl) rfl
theorem q_835 : Cond.selects RX5 yX5_unsold yX5_unsold ∈ zWs := qt_2 _ (List.mem_of_getElem? (i := 1) rfl) rfl
theorem q_836 : Cond.code yX5_unsold cX5_unsold 2 (some .double) ∈ zWs := qt_2 _ (List.mem_of_getElem? (i := 2) rfl) rfl
theorem q_837 : Cond.methodLink RX5 174 yX1_openCompanies ∈ zWs := qt_2 _ (List.mem_of_getElem? (i := 3) rfl) rfl
theorem q_838 : Cond.methodLink RX5 177 yX1_unsoldShares ∈ zWs := qt_2 _ (List.mem_of_getElem? (i := 7) rfl) rfl
theorem q_839 : Cond.instanceMethod yX1_unsoldShares ∈ zWs := qt_2 _ (List.mem_of_getElem? (i := 8) rfl) rfl
theorem q_840 : Cond.selects RX1 yX1_unsoldShares yX1_unsoldShares ∈ zWs := qt_2 _ (List.mem_of_getElem? (i := 9) rfl) rfl
theorem q_841 : Cond.code yX1_unsoldShares cX1_unsoldShares 3 (some .int) ∈ zWs := qt_2 _ (List.mem_of_getElem? (i := 10) rfl) rfl
theorem q_842 : Cond.methodLink RL 156 yX6_unsold ∈ zWs := qt_5 _ (List.mem_of_getElem? (i := 179) rfl) rfl
theorem q_843 : Cond.instanceMethod yX6_unsold ∈ zWs := qt_5 _ (List.mem_of_getElem? (i := 180) rfl) rfl
theorem q_844 : Cond.selects RX6 yX6_unsold yX6_unsold ∈ zWs := qt_5 _ (List.mem_of_getElem? (i := 181) rfl) rfl
theorem q_845 : Cond.code yX6_unsold cX6_unsold 3 (some .double) ∈ zWs := qt_5 _ (List.mem_of_getElem? (i := 182) rfl) rfl
theorem q_846 : Cond.methodLink RL 157 yL_append ∈ zWs := qt_4 _ (List.mem_of_getElem? (i := 43) rfl) rfl
theorem q_847 : Cond.static yL_append ∈ zWs := qt_4 _ (List.mem_of_getElem? (i := 44) rfl) rfl
theorem q_848 : Cond.codeWith yL_append cL_append 4 (some .int) [(0, 9, 12, 13), (0, 9, 15, 25)] ∈ zWs := qt_4 _ (List.mem_of_getElem? (i := 45) rfl) rfl
theorem q_849 : Cond.methodLink RL 74 yX5_append ∈ zWs := qt_4 _ (List.mem_of_getElem? (i := 46) rfl) rfl
theorem q_850 : Cond.instanceMethod yX5_append ∈ zWs := qt_4 _ (List.mem_of_getElem? (i := 47) rfl) rfl
theorem q_851 : Cond.selects RX5 yX5_append yX5_append ∈ zWs := qt_4 _ (List.mem_of_getElem? (i := 48) rfl) rfl
theorem q_852 : Cond.code yX5_append cX5_append 2 (some .int) ∈ zWs := qt_4 _ (List.mem_of_getElem? (i := 49) rfl) rfl
theorem q_853 : Cond.fieldLink RX5 180 "StockLines$Script" "length" "I" ∈ zWs := qt_1 _ (List.mem_of_getElem? (i := 205) rfl) rfl
theorem q_854 : Cond.methodLink RX5 183 yX4_add ∈ zWs := qt_4 _ (List.mem_of_getElem? (i := 50) rfl) rfl
theorem q_855 : Cond.instanceMethod yX4_add ∈ zWs := qt_4 _ (List.mem_of_getElem? (i := 51) rfl) rfl
theorem q_856 : Cond.selects RX4 yX4_add yX4_add ∈ zWs := qt_4 _ (List.mem_of_getElem? (i := 52) rfl) rfl
theorem q_857 : Cond.code yX4_add cX4_add 2 none ∈ zWs := qt_4 _ (List.mem_of_getElem? (i := 53) rfl) rfl
theorem q_858 : Cond.fieldLink RX4 15 "StockLines$Script" "length" "I" ∈ zWs := qt_1 _ (List.mem_of_getElem? (i := 204) rfl) rfl
theorem q_859 : Cond.methodLink RL 159 yX6_append ∈ zWs := qt_5 _ (List.mem_of_getElem? (i := 183) rfl) rfl
theorem q_860 : Cond.instanceMethod yX6_append ∈ zWs := qt_5 _ (List.mem_of_getElem? (i := 184) rfl) rfl
theorem q_861 : Cond.selects RX6 yX6_append yX6_append ∈ zWs := qt_5 _ (List.mem_of_getElem? (i := 185) rfl) rfl
theorem q_862 : Cond.code yX6_append cX6_append 2 (some .int) ∈ zWs := qt_5 _ (List.mem_of_getElem? (i := 186) rfl) rfl
theorem q_863 : Cond.fieldLink RX6 221 "StockLinesModel" "length" "I" ∈ zWs := qt_4 _ (List.mem_of_getElem? (i := 75) rfl) rfl
theorem q_864 : Cond.methodLink RL 160 yX5_clearText ∈ zWs := qt_2 _ (List.mem_of_getElem? (i := 15) rfl) rfl
theorem q_865 : Cond.instanceMethod yX5_clearText ∈ zWs := qt_2 _ (List.mem_of_getElem? (i := 16) rfl) rfl
theorem q_866 : Cond.selects RX5 yX5_clearText yX5_clearText ∈ zWs := qt_2 _ (List.mem_of_getElem? (i := 17) rfl) rfl
theorem q_867 : Cond.code yX5_clearText cX5_clearText 2 (some .int) ∈ zWs := qt_2 _ (List.mem_of_getElem? (i := 18) rfl) rfl
theorem q_868 : Cond.methodLink RL 163 yX6_clearText ∈ zWs := qt_5 _ (List.mem_of_getElem? (i := 187) rfl) rfl
theorem q_869 : Cond.instanceMethod yX6_clearText ∈ zWs := qt_5 _ (List.mem_of_getElem? (i := 188) rfl) rfl
theorem q_870 : Cond.selects RX6 yX6_clearText yX6_clearText ∈ zWs := qt_5 _ (List.mem_of_getElem? (i := 189) rfl) rfl
theorem q_871 : Cond.code yX6_clearText cX6_clearText 2 (some .int) ∈ zWs := qt_5 _ (List.mem_of_getElem? (i := 190) rfl) rfl
theorem q_872 : Cond.methodLink RL 164 yX5_play ∈ zWs := qt_2 _ (List.mem_of_getElem? (i := 19) rfl) rfl
theorem q_873 : Cond.instanceMethod yX5_play ∈ zWs := qt_2 _ (List.mem_of_getElem? (i := 20) rfl) rfl
theorem q_874 : Cond.selects RX5 yX5_play yX5_play ∈ zWs := qt_2 _ (List.mem_of_getElem? (i := 21) rfl) rfl
theorem q_875 : Cond.code yX5_play cX5_play 4 (some .int) ∈ zWs := qt_2 _ (List.mem_of_getElem? (i := 22) rfl) rfl
theorem q_876 : Cond.methodLink RX5 186 yX4_errorPosition ∈ zWs := qt_2 _ (List.mem_of_getElem? (i := 23) rfl) rfl
theorem q_877 : Cond.instanceMethod yX4_errorPosition ∈ zWs := qt_2 _ (List.mem_of_getElem? (i := 24) rfl) rfl
theorem q_878 : Cond.selects RX4 yX4_errorPosition yX4_errorPosition ∈ zWs := qt_2 _ (List.mem_of_getElem? (i := 25) rfl) rfl
theorem q_879 : Cond.code yX4_errorPosition cX4_errorPosition 3 (some .int) ∈ zWs := qt_2 _ (List.mem_of_getElem? (i := 26) rfl) rfl
theorem q_880 : Cond.methodLink RX4 19 yX4_sign ∈ zWs := qt_2 _ (List.mem_of_getElem? (i := 27) rfl) rfl
theorem q_881 : Cond.instanceMethod yX4_sign ∈ zWs := qt_2 _ (List.mem_of_getElem? (i := 28) rfl) rfl
theorem q_882 : Cond.selects RX4 yX4_sign yX4_sign ∈ zWs := qt_2 _ (List.mem_of_getElem? (i := 29) rfl) rfl
theorem q_883 : Cond.code yX4_sign cX4_sign 2 (some .int) ∈ zWs := qt_2 _ (List.mem_of_getElem? (i := 30) rfl) rfl
theorem q_884 : Cond.methodLink RX4 27 yX4_behind ∈ zWs := qt_2 _ (List.mem_of_getElem? (i := 31) rfl) rfl
theorem q_885 : Cond.static yX4_behind ∈ zWs := qt_2 _ (List.mem_of_getElem? (i := 32) rfl) rfl
theorem q_886 : Cond.code yX4_behind cX4_behind 3 (some .int) ∈ zWs := qt_2 _ (List.mem_of_getElem? (i := 33) rfl) rfl
theorem q_887 : Cond.methodLink RX4 31 yX4_behindMoveSign ∈ zWs := qt_2 _ (List.mem_of_getElem? (i := 34) rfl) rfl
theorem q_888 : Cond.static yX4_behindMoveSign ∈ zWs := qt_2 _ (List.mem_of_getElem? (i := 35) rfl) rfl
theorem q_889 : Cond.code yX4_behindMoveSign cX4_behindMoveSign 1 (some .int) ∈ zWs := qt_2 _ (List.mem_of_getElem? (i := 36) rfl) rfl
theorem q_890 : Cond.methodLink RX4 23 yX4_isDigit ∈ zWs := qt_2 _ (List.mem_of_getElem? (i := 37) rfl) rfl
theorem q_891 : Cond.static yX4_isDigit ∈ zWs := qt_2 _ (List.mem_of_getElem? (i := 38) rfl) rfl
theorem q_892 : Cond.code yX4_isDigit cX4_isDigit 3 (some .boolean) ∈ zWs := qt_2 _ (List.mem_of_getElem? (i := 39) rfl) rfl
theorem q_893 : Cond.methodLink RX5 189 yX5_makeMove ∈ zWs := qt_2 _ (List.mem_of_getElem? (i := 61) rfl) rfl
theorem q_894 : Cond.instanceMethod yX5_makeMove ∈ zWs := qt_2 _ (List.mem_of_getElem? (i := 63) rfl) rfl
theorem q_895 : Cond.selects RX5 yX5_makeMove yX5_makeMove ∈ zWs := qp_1 _ (List.mem_of_getElem? (i := 1) rfl)
theorem q_896 : Cond.code yX5_makeMove cX5_makeMove 5 (some .boolean) ∈ zWs := qt_2 _ (List.mem_of_getElem? (i := 64) rfl) rfl
theorem q_897 : Cond.methodLink RX5 219 yX4_sign ∈ zWs := qt_2 _ (List.mem_of_getElem? (i := 65) rfl) rfl
theorem q_898 : Cond.methodLink RX5 222 yX4_digit ∈ zWs := qt_2 _ (List.mem_of_getElem? (i := 66) rfl) rfl
theorem q_899 : Cond.instanceMethod yX4_digit ∈ zWs := qt_2 _ (List.mem_of_getElem? (i := 67) rfl) rfl
theorem q_900 : Cond.selects RX4 yX4_digit yX4_digit ∈ zWs := qt_2 _ (List.mem_of_getElem? (i := 68) rfl) rfl
theorem q_901 : Cond.code yX4_digit cX4_digit 3 (some .int) ∈ zWs := qt_2 _ (List.mem_of_getElem? (i := 69) rfl) rfl
theorem q_902 : Cond.methodLink RX5 192 yX4_nextMove ∈ zWs := qt_2 _ (List.mem_of_getElem? (i := 215) rfl) rfl
theorem q_903 : Cond.instanceMethod yX4_nextMove ∈ zWs := qt_2 _ (List.mem_of_getElem? (i := 216) rfl) rfl
theorem q_904 : Cond.selects RX4 yX4_nextMove yX4_nextMove ∈ zWs := qt_2 _ (List.mem_of_getElem? (i := 217) rfl) rfl
theorem q_905 : Cond.code yX4_nextMove cX4_nextMove 3 (some .int) ∈ zWs := qt_2 _ (List.mem_of_getElem? (i := 218) rfl) rfl
theorem q_906 : Cond.methodLink RL 167 yX6_play ∈ zWs := qt_5 _ (List.mem_of_getElem? (i := 191) rfl) rfl
theorem q_907 : Cond.instanceMethod yX6_play ∈ zWs := qt_5 _ (List.mem_of_getElem? (i := 192) rfl) rfl
theorem q_908 : Cond.selects RX6 yX6_play yX6_play ∈ zWs := qt_5 _ (List.mem_of_getElem? (i := 193) rfl) rfl
theorem q_909 : Cond.code yX6_play cX6_play 2 (some .int) ∈ zWs := qt_5 _ (List.mem_of_getElem? (i := 194) rfl) rfl
theorem q_910 : Cond.fieldLink RX6 224 "StockLinesModel" "at" "I" ∈ zWs := qt_4 _ (List.mem_of_getElem? (i := 83) rfl) rfl
theorem q_911 : Cond.methodLink RX6 245 yX6_takesMove ∈ zWs := qt_5 _ (List.mem_of_getElem? (i := 195) rfl) rfl
theorem q_912 : Cond.instanceMethod yX6_takesMove ∈ zWs := qt_5 _ (List.mem_of_getElem? (i := 197) rfl) rfl
theorem q_913 : Cond.selects RX6 yX6_takesMove yX6_takesMove ∈ zWs := qp_5 _ (List.mem_of_getElem? (i := 3) rfl)
theorem q_914 : Cond.code yX6_takesMove cX6_takesMove 1 (some .boolean) ∈ zWs := qt_5 _ (List.mem_of_getElem? (i := 198) rfl) rfl
theorem q_915 : Cond.fieldLink RX6 227 "StockLinesModel" "letter" "I" ∈ zWs := qt_4 _ (List.mem_of_getElem? (i := 84) rfl) rfl
theorem q_916 : Cond.fieldLink RX6 236 "StockLinesModel" "one" "I" ∈ zWs := qt_4 _ (List.mem_of_getElem? (i := 85) rfl) rfl
theorem q_917 : Cond.fieldLink RX6 239 "StockLinesModel" "other" "I" ∈ zWs := qt_4 _ (List.mem_of_getElem? (i := 86) rfl) rfl
theorem q_918 : Cond.methodLink RX6 242 yX6_takesDigits ∈ zWs := qt_5 _ (List.mem_of_getElem? (i := 199) rfl) rfl
theorem q_919 : Cond.instanceMethod yX6_takesDigits ∈ zWs := qt_5 _ (List.mem_of_getElem? (i := 201) rfl) rfl
theorem q_920 : Cond.selects RX6 yX6_takesDigits yX6_takesDigits ∈ zWs := qp_5 _ (List.mem_of_getElem? (i := 4) rfl)
theorem q_921 : Cond.code yX6_takesDigits cX6_takesDigits 1 (some .boolean) ∈ zWs := qt_5 _ (List.mem_of_getElem? (i := 202) rfl) rfl
theorem q_922 : Cond.methodLink RX6 230 yX6_isDigit ∈ zWs := qt_5 _ (List.mem_of_getElem? (i := 203) rfl) rfl
theorem q_923 : Cond.instanceMethod yX6_isDigit ∈ zWs := qt_5 _ (List.mem_of_getElem? (i := 205) rfl) rfl
theorem q_924 : Cond.selects RX6 yX6_isDigit yX6_isDigit ∈ zWs := qp_5 _ (List.mem_of_getElem? (i := 5) rfl)
theorem q_925 : Cond.code yX6_isDigit cX6_isDigit 3 (some .boolean) ∈ zWs := qt_5 _ (List.mem_of_getElem? (i := 206) rfl) rfl
theorem q_926 : Cond.methodLink RX6 233 yX6_digit ∈ zWs := qt_5 _ (List.mem_of_getElem? (i := 207) rfl) rfl
theorem q_927 : Cond.instanceMethod yX6_digit ∈ zWs := qt_5 _ (List.mem_of_getElem? (i := 209) rfl) rfl
theorem q_928 : Cond.selects RX6 yX6_digit yX6_digit ∈ zWs := qp_5 _ (List.mem_of_getElem? (i := 6) rfl)
theorem q_929 : Cond.code yX6_digit cX6_digit 2 (some .int) ∈ zWs := qt_5 _ (List.mem_of_getElem? (i := 210) rfl) rfl
theorem q_930 : Cond.methodLink RX6 248 yX6_makes ∈ zWs := qt_5 _ (List.mem_of_getElem? (i := 211) rfl) rfl
theorem q_931 : Cond.instanceMethod yX6_makes ∈ zWs := qt_5 _ (List.mem_of_getElem? (i := 213) rfl) rfl
theorem q_932 : Cond.selects RX6 yX6_makes yX6_makes ∈ zWs := qp_5 _ (List.mem_of_getElem? (i := 7) rfl)
theorem q_933 : Cond.code yX6_makes cX6_makes 3 (some .boolean) ∈ zWs := qt_5 _ (List.mem_of_getElem? (i := 214) rfl) rfl
theorem q_934 : Cond.methodLink RL 168 yL_undo ∈ zWs := qt_4 _ (List.mem_of_getElem? (i := 54) rfl) rfl
theorem q_935 : Cond.static yL_undo ∈ zWs := qt_4 _ (List.mem_of_getElem? (i := 55) rfl) rfl
theorem q_936 : Cond.codeWith yL_undo cL_undo 3 (some .int) [(0, 8, 11, 25)] ∈ zWs := qt_4 _ (List.mem_of_getElem? (i := 56) rfl) rfl
theorem q_937 : Cond.methodLink RL 77 yX5_undo ∈ zWs := qt_4 _ (List.mem_of_getElem? (i := 57) rfl) rfl
theorem q_938 : Cond.instanceMethod yX5_undo ∈ zWs := qt_4 _ (List.mem_of_getElem? (i := 58) rfl) rfl
theorem q_939 : Cond.selects RX5 yX5_undo yX5_undo ∈ zWs := qt_4 _ (List.mem_of_getElem? (i := 59) rfl) rfl
theorem q_940 : Cond.code yX5_undo cX5_undo 1 (some .int) ∈ zWs := qt_4 _ (List.mem_of_getElem? (i := 60) rfl) rfl
theorem q_941 : Cond.methodLink RL 170 yX6_undo ∈ zWs := qt_4 _ (List.mem_of_getElem? (i := 127) rfl) rfl
theorem q_942 : Cond.instanceMethod yX6_undo ∈ zWs := qt_4 _ (List.mem_of_getElem? (i := 128) rfl) rfl
theorem q_943 : Cond.selects RX6 yX6_undo yX6_undo ∈ zWs := qt_4 _ (List.mem_of_getElem? (i := 129) rfl) rfl
theorem q_944 : Cond.code yX6_undo cX6_undo 2 (some .int) ∈ zWs := qt_4 _ (List.mem_of_getElem? (i := 130) rfl) rfl
theorem q_945 : Cond.methodLink RL 171 yX5_digest ∈ zWs := qt_2 _ (List.mem_of_getElem? (i := 219) rfl) rfl
theorem q_946 : Cond.instanceMethod yX5_digest ∈ zWs := qt_2 _ (List.mem_of_getElem? (i := 220) rfl) rfl
theorem q_947 : Cond.selects RX5 yX5_digest yX5_digest ∈ zWs := qt_2 _ (List.mem_of_getElem? (i := 221) rfl) rfl
theorem q_948 : Cond.code yX5_digest cX5_digest 5 (some .long) ∈ zWs := qt_2 _ (List.mem_of_getElem? (i := 222) rfl) rfl
theorem q_949 : Cond.constantLong RX5 199 (111073) ∈ zWs := qt_2 _ (List.mem_of_getElem? (i := 223) rfl) rfl
theorem q_950 : Cond.constantLong RX5 201 (31) ∈ zWs := qt_2 _ (List.mem_of_getElem? (i := 224) rfl) rfl
theorem q_951 : Cond.methodLink RX5 203 yX5_value ∈ zWs := qt_2 _ (List.mem_of_getElem? (i := 225) rfl) rfl
theorem q_952 : Cond.methodLink RX5 206 yX5_player ∈ zWs := qt_3 _ (List.mem_of_getElem? (i := 61) rfl) rfl
theorem q_953 : Cond.methodLink RX5 210 yX5_company ∈ zWs := qt_3 _ (List.mem_of_getElem? (i := 84) rfl) rfl
theorem q_954 : Cond.methodLink RX5 213 yX5_track ∈ zWs := qt_3 _ (List.mem_of_getElem? (i := 95) rfl) rfl
theorem q_955 : Cond.methodLink RX5 216 yX5_town ∈ zWs := qt_3 _ (List.mem_of_getElem? (i := 100) rfl) rfl
theorem q_956 : Cond.methodLink RL 175 yX6_digest ∈ zWs := qt_5 _ (List.mem_of_getElem? (i := 215) rfl) rfl
theorem q_957 : Cond.instanceMethod yX6_digest ∈ zWs := qt_5 _ (List.mem_of_getElem? (i := 216) rfl) rfl
theorem q_958 : Cond.selects RX6 yX6_digest yX6_digest ∈ zWs := qt_5 _ (List.mem_of_getElem? (i := 217) rfl) rfl
theorem q_959 : Cond.code yX6_digest cX6_digest 3 (some .long) ∈ zWs := qt_5 _ (List.mem_of_getElem? (i := 218) rfl) rfl
theorem q_960 : Cond.constantLong RX6 257 (3583) ∈ zWs := qt_5 _ (List.mem_of_getElem? (i := 219) rfl) rfl
theorem q_961 : Cond.fieldLink RX6 253 "StockLinesModel" "hash" "J" ∈ zWs := qt_4 _ (List.mem_of_getElem? (i := 87) rfl) rfl
theorem q_962 : Cond.methodLink RX6 259 yX6_mix ∈ zWs := qt_5 _ (List.mem_of_getElem? (i := 220) rfl) rfl
theorem q_963 : Cond.instanceMethod yX6_mix ∈ zWs := qt_5 _ (List.mem_of_getElem? (i := 222) rfl) rfl
theorem q_964 : Cond.selects RX6 yX6_mix yX6_mix ∈ zWs := qp_5 _ (List.mem_of_getElem? (i := 8) rfl)
theorem q_965 : Cond.code yX6_mix cX6_mix 2 none ∈ zWs := qt_5 _ (List.mem_of_getElem? (i := 223) rfl) rfl
theorem q_966 : Cond.constantLong RX6 251 (31) ∈ zWs := qt_5 _ (List.mem_of_getElem? (i := 224) rfl) rfl
theorem qf_X0_0 : Cond.laysFinal RX0 "StockLines$Company" "held" "[I" ∈ zWs := qt_1 _ (List.mem_of_getElem? (i := 109) rfl) rfl
theorem qf_X0_1 : Cond.lays RX0 "StockLines$Company" "open" "Z" ∈ zWs := qt_1 _ (List.mem_of_getElem? (i := 111) rfl) rfl
theorem qf_X0_2 : Cond.lays RX0 "StockLines$Company" "home" "I" ∈ zWs := qt_1 _ (List.mem_of_getElem? (i := 113) rfl) rfl
theorem qf_X0_3 : Cond.lays RX0 "StockLines$Company" "cash" "I" ∈ zWs := qt_1 _ (List.mem_of_getElem? (i := 115) rfl) rfl
theorem qf_X0_4 : Cond.lays RX0 "StockLines$Company" "step" "I" ∈ zWs := qt_1 _ (List.mem_of_getElem? (i := 117) rfl) rfl
theorem qf_X0_5 : Cond.lays RX0 "StockLines$Company" "stops" "I" ∈ zWs := qt_1 _ (List.mem_of_getElem? (i := 119) rfl) rfl
theorem qf_X0_6 : Cond.lays RX0 "StockLines$Company" "president" "I" ∈ zWs := qt_1 _ (List.mem_of_getElem? (i := 121) rfl) rfl
theorem qf_X0_7 : Cond.lays RX0 "StockLines$Company" "latest" "I" ∈ zWs := qt_1 _ (List.mem_of_getElem? (i := 123) rfl) rfl
theorem inlX0 : ∀ w ∈ u_ws RX0 TX0 8, w ∈ zWs := by
  show ∀ w ∈ [Cond.laysFinal RX0 "StockLines$Company" "held" "[I", Cond.lays RX0 "StockLines$Company" "open" "Z", Cond.lays RX0 "StockLines$Company" "home" "I", Cond.lays RX0 "StockLines$Company" "cash" "I", Cond.lays RX0 "StockLines$Company" "step" "I", Cond.lays RX0 "StockLines$Company" "stops" "I", Cond.lays RX0 "StockLines$Company" "president" "I", Cond.lays RX0 "StockLines$Company" "latest" "I"], w ∈ zWs
  exact List.forall_mem_cons.mpr ⟨qf_X0_0, List.forall_mem_cons.mpr ⟨qf_X0_1, List.forall_mem_cons.mpr ⟨qf_X0_2, List.forall_mem_cons.mpr ⟨qf_X0_3, List.forall_mem_cons.mpr ⟨qf_X0_4, List.forall_mem_cons.mpr ⟨qf_X0_5, List.forall_mem_cons.mpr ⟨qf_X0_6, List.forall_mem_cons.mpr ⟨qf_X0_7, fun _ h => absurd h List.not_mem_nil⟩⟩⟩⟩⟩⟩⟩⟩
theorem qf_X1_0 : Cond.laysFinal RX1 "StockLines$Game" "search" "LStockLines$RouteSearch;" ∈ zWs := qt_1 _ (List.mem_of_getElem? (i := 165) rfl) rfl
theorem qf_X1_1 : Cond.laysFinal RX1 "StockLines$Game" "land" "LStockLines$Land;" ∈ zWs := qt_1 _ (List.mem_of_getElem? (i := 167) rfl) rfl
theorem qf_X1_2 : Cond.laysFinal RX1 "StockLines$Game" "companies" "[LStockLines$Company;" ∈ zWs := qt_1 _ (List.mem_of_getElem? (i := 169) rfl) rfl
theorem qf_X1_3 : Cond.laysFinal RX1 "StockLines$Game" "cash" "[I" ∈ zWs := qt_1 _ (List.mem_of_getElem? (i := 171) rfl) rfl
theorem qf_X1_4 : Cond.laysFinal RX1 "StockLines$Game" "order" "[I" ∈ zWs := qt_1 _ (List.mem_of_getElem? (i := 173) rfl) rfl
theorem qf_X1_5 : Cond.lays RX1 "StockLines$Game" "orderLength" "I" ∈ zWs := qt_1 _ (List.mem_of_getElem? (i := 175) rfl) rfl
theorem qf_X1_6 : Cond.lays RX1 "StockLines$Game" "orderPlace" "I" ∈ zWs := qt_1 _ (List.mem_of_getElem? (i := 177) rfl) rfl
theorem qf_X1_7 : Cond.lays RX1 "StockLines$Game" "extended" "Z" ∈ zWs := qt_1 _ (List.mem_of_getElem? (i := 179) rfl) rfl
theorem qf_X1_8 : Cond.lays RX1 "StockLines$Game" "players" "I" ∈ zWs := qt_1 _ (List.mem_of_getElem? (i := 181) rfl) rfl
theorem qf_X1_9 : Cond.lays RX1 "StockLines$Game" "turn" "I" ∈ zWs := qt_1 _ (List.mem_of_getElem? (i := 183) rfl) rfl
theorem qf_X1_10 : Cond.lays RX1 "StockLines$Game" "passed" "I" ∈ zWs := qt_1 _ (List.mem_of_getElem? (i := 185) rfl) rfl
theorem qf_X1_11 : Cond.lays RX1 "StockLines$Game" "operating" "Z" ∈ zWs := qt_1 _ (List.mem_of_getElem? (i := 187) rfl) rfl
theorem qf_X1_12 : Cond.lays RX1 "StockLines$Game" "phasesOver" "I" ∈ zWs := qt_1 _ (List.mem_of_getElem? (i := 189) rfl) rfl
theorem qf_X1_13 : Cond.lays RX1 "StockLines$Game" "bank" "I" ∈ zWs := qt_1 _ (List.mem_of_getElem? (i := 191) rfl) rfl
theorem qf_X1_14 : Cond.lays RX1 "StockLines$Game" "closed" "I" ∈ zWs := qt_1 _ (List.mem_of_getElem? (i := 193) rfl) rfl
theorem inlX1 : ∀ w ∈ u_ws RX1 TX1 15, w ∈ zWs := by
  show ∀ w ∈ [Cond.laysFinal RX1 "StockLines$Game" "search" "LStockLines$RouteSearch;", Cond.laysFinal RX1 "StockLines$Game" "land" "LStockLines$Land;", Cond.laysFinal RX1 "StockLines$Game" "companies" "[LStockLines$Company;", Cond.laysFinal RX1 "StockLines$Game" "cash" "[I", Cond.laysFinal RX1 "StockLines$Game" "order" "[I", Cond.lays RX1 "StockLines$Game" "orderLength" "I", Cond.lays RX1 "StockLines$Game" "orderPlace" "I", Cond.lays RX1 "StockLines$Game" "extended" "Z", Cond.lays RX1 "StockLines$Game" "players" "I", Cond.lays RX1 "StockLines$Game" "turn" "I", Cond.lays RX1 "StockLines$Game" "passed" "I", Cond.lays RX1 "StockLines$Game" "operating" "Z", Cond.lays RX1 "StockLines$Game" "phasesOver" "I", Cond.lays RX1 "StockLines$Game" "bank" "I", Cond.lays RX1 "StockLines$Game" "closed" "I"], w ∈ zWs
  exact List.forall_mem_cons.mpr ⟨qf_X1_0, List.forall_mem_cons.mpr ⟨qf_X1_1, List.forall_mem_cons.mpr ⟨qf_X1_2, List.forall_mem_cons.mpr ⟨qf_X1_3, List.forall_mem_cons.mpr ⟨qf_X1_4, List.forall_mem_cons.mpr ⟨qf_X1_5, List.forall_mem_cons.mpr ⟨qf_X1_6, List.forall_mem_cons.mpr ⟨qf_X1_7, List.forall_mem_cons.mpr ⟨qf_X1_8, List.forall_mem_cons.mpr ⟨qf_X1_9, List.forall_mem_cons.mpr ⟨qf_X1_10, List.forall_mem_cons.mpr ⟨qf_X1_11, List.forall_mem_cons.mpr ⟨qf_X1_12, List.forall_mem_cons.mpr ⟨qf_X1_13, List.forall_mem_cons.mpr ⟨qf_X1_14, fun _ h => absurd h List.not_mem_nil⟩⟩⟩⟩⟩⟩⟩⟩⟩⟩⟩⟩⟩⟩⟩
theorem qf_X2_0 : Cond.laysFinal RX2 "StockLines$Land" "worth" "[I" ∈ zWs := qt_1 _ (List.mem_of_getElem? (i := 78) rfl) rfl
theorem qf_X2_1 : Cond.laysFinal RX2 "StockLines$Land" "level" "[[I" ∈ zWs := qt_1 _ (List.mem_of_getElem? (i := 80) rfl) rfl
theorem inlX2 : ∀ w ∈ u_ws RX2 TX2 2, w ∈ zWs := by
  show ∀ w ∈ [Cond.laysFinal RX2 "StockLines$Land" "worth" "[I", Cond.laysFinal RX2 "StockLines$Land" "level" "[[I"], w ∈ zWs
  exact List.forall_mem_cons.mpr ⟨qf_X2_0, List.forall_mem_cons.mpr ⟨qf_X2_1, fun _ h => absurd h List.not_mem_nil⟩⟩
theorem qf_X3_0 : Cond.laysFinal RX3 "StockLines$RouteSearch" "distance" "[I" ∈ zWs := qt_1 _ (List.mem_of_getElem? (i := 39) rfl) rfl
theorem qf_X3_1 : Cond.laysFinal RX3 "StockLines$RouteSearch" "row" "[I" ∈ zWs := qt_1 _ (List.mem_of_getElem? (i := 41) rfl) rfl
theorem qf_X3_2 : Cond.laysFinal RX3 "StockLines$RouteSearch" "best" "[I" ∈ zWs := qt_1 _ (List.mem_of_getElem? (i := 43) rfl) rfl
theorem qf_X3_3 : Cond.lays RX3 "StockLines$RouteSearch" "land" "LStockLines$Land;" ∈ zWs := qt_1 _ (List.mem_of_getElem? (i := 45) rfl) rfl
theorem qf_X3_4 : Cond.lays RX3 "StockLines$RouteSearch" "homeBit" "I" ∈ zWs := qt_1 _ (List.mem_of_getElem? (i := 47) rfl) rfl
theorem qf_X3_5 : Cond.lays RX3 "StockLines$RouteSearch" "stops" "I" ∈ zWs := qt_1 _ (List.mem_of_getElem? (i := 49) rfl) rfl
theorem qf_X3_6 : Cond.lays RX3 "StockLines$RouteSearch" "bestLength" "I" ∈ zWs := qt_1 _ (List.mem_of_getElem? (i := 51) rfl) rfl
theorem qf_X3_7 : Cond.lays RX3 "StockLines$RouteSearch" "bestIncome" "I" ∈ zWs := qt_1 _ (List.mem_of_getElem? (i := 53) rfl) rfl
theorem inlX3 : ∀ w ∈ u_ws RX3 TX3 8, w ∈ zWs := by
  show ∀ w ∈ [Cond.laysFinal RX3 "StockLines$RouteSearch" "distance" "[I", Cond.laysFinal RX3 "StockLines$RouteSearch" "row" "[I", Cond.laysFinal RX3 "StockLines$RouteSearch" "best" "[I", Cond.lays RX3 "StockLines$RouteSearch" "land" "LStockLines$Land;", Cond.lays RX3 "StockLines$RouteSearch" "homeBit" "I", Cond.lays RX3 "StockLines$RouteSearch" "stops" "I", Cond.lays RX3 "StockLines$RouteSearch" "bestLength" "I", Cond.lays RX3 "StockLines$RouteSearch" "bestIncome" "I"], w ∈ zWs
  exact List.forall_mem_cons.mpr ⟨qf_X3_0, List.forall_mem_cons.mpr ⟨qf_X3_1, List.forall_mem_cons.mpr ⟨qf_X3_2, List.forall_mem_cons.mpr ⟨qf_X3_3, List.forall_mem_cons.mpr ⟨qf_X3_4, List.forall_mem_cons.mpr ⟨qf_X3_5, List.forall_mem_cons.mpr ⟨qf_X3_6, List.forall_mem_cons.mpr ⟨qf_X3_7, fun _ h => absurd h List.not_mem_nil⟩⟩⟩⟩⟩⟩⟩⟩
theorem qf_X4_0 : Cond.laysFinal RX4 "StockLines$Script" "signs" "[I" ∈ zWs := qt_1 _ (List.mem_of_getElem? (i := 206) rfl) rfl
theorem qf_X4_1 : Cond.lays RX4 "StockLines$Script" "length" "I" ∈ zWs := qt_1 _ (List.mem_of_getElem? (i := 208) rfl) rfl
theorem inlX4 : ∀ w ∈ u_ws RX4 TX4 2, w ∈ zWs := by
  show ∀ w ∈ [Cond.laysFinal RX4 "StockLines$Script" "signs" "[I", Cond.lays RX4 "StockLines$Script" "length" "I"], w ∈ zWs
  exact List.forall_mem_cons.mpr ⟨qf_X4_0, List.forall_mem_cons.mpr ⟨qf_X4_1, fun _ h => absurd h List.not_mem_nil⟩⟩
theorem qf_X5_0 : Cond.laysFinal RX5 "StockLines" "game" "LStockLines$Game;" ∈ zWs := qt_1 _ (List.mem_of_getElem? (i := 215) rfl) rfl
theorem qf_X5_1 : Cond.laysFinal RX5 "StockLines" "saved" "[LStockLines$Game;" ∈ zWs := qt_1 _ (List.mem_of_getElem? (i := 217) rfl) rfl
theorem qf_X5_2 : Cond.lays RX5 "StockLines" "savedCount" "I" ∈ zWs := qt_1 _ (List.mem_of_getElem? (i := 219) rfl) rfl
theorem qf_X5_3 : Cond.laysFinal RX5 "StockLines" "script" "LStockLines$Script;" ∈ zWs := qt_1 _ (List.mem_of_getElem? (i := 221) rfl) rfl
theorem inlX5 : ∀ w ∈ u_ws RX5 TX5 4, w ∈ zWs := by
  show ∀ w ∈ [Cond.laysFinal RX5 "StockLines" "game" "LStockLines$Game;", Cond.laysFinal RX5 "StockLines" "saved" "[LStockLines$Game;", Cond.lays RX5 "StockLines" "savedCount" "I", Cond.laysFinal RX5 "StockLines" "script" "LStockLines$Script;"], w ∈ zWs
  exact List.forall_mem_cons.mpr ⟨qf_X5_0, List.forall_mem_cons.mpr ⟨qf_X5_1, List.forall_mem_cons.mpr ⟨qf_X5_2, List.forall_mem_cons.mpr ⟨qf_X5_3, fun _ h => absurd h List.not_mem_nil⟩⟩⟩⟩
theorem qf_X6_0 : Cond.laysFinal RX6 "StockLinesModel" "now" "[I" ∈ zWs := qt_4 _ (List.mem_of_getElem? (i := 88) rfl) rfl
theorem qf_X6_1 : Cond.laysFinal RX6 "StockLinesModel" "past" "[I" ∈ zWs := qt_4 _ (List.mem_of_getElem? (i := 90) rfl) rfl
theorem qf_X6_2 : Cond.lays RX6 "StockLinesModel" "saved" "I" ∈ zWs := qt_4 _ (List.mem_of_getElem? (i := 92) rfl) rfl
theorem qf_X6_3 : Cond.laysFinal RX6 "StockLinesModel" "text" "[I" ∈ zWs := qt_4 _ (List.mem_of_getElem? (i := 94) rfl) rfl
theorem qf_X6_4 : Cond.lays RX6 "StockLinesModel" "length" "I" ∈ zWs := qt_4 _ (List.mem_of_getElem? (i := 96) rfl) rfl
theorem qf_X6_5 : Cond.lays RX6 "StockLinesModel" "refusal" "I" ∈ zWs := qt_4 _ (List.mem_of_getElem? (i := 98) rfl) rfl
theorem qf_X6_6 : Cond.laysFinal RX6 "StockLinesModel" "path" "[I" ∈ zWs := qt_4 _ (List.mem_of_getElem? (i := 100) rfl) rfl
theorem qf_X6_7 : Cond.laysFinal RX6 "StockLinesModel" "sums" "[I" ∈ zWs := qt_4 _ (List.mem_of_getElem? (i := 102) rfl) rfl
theorem qf_X6_8 : Cond.laysFinal RX6 "StockLinesModel" "taken" "[I" ∈ zWs := qt_4 _ (List.mem_of_getElem? (i := 104) rfl) rfl
theorem qf_X6_9 : Cond.laysFinal RX6 "StockLinesModel" "best" "[I" ∈ zWs := qt_4 _ (List.mem_of_getElem? (i := 106) rfl) rfl
theorem qf_X6_10 : Cond.lays RX6 "StockLinesModel" "bestMany" "I" ∈ zWs := qt_4 _ (List.mem_of_getElem? (i := 108) rfl) rfl
theorem qf_X6_11 : Cond.lays RX6 "StockLinesModel" "bestSum" "I" ∈ zWs := qt_4 _ (List.mem_of_getElem? (i := 110) rfl) rfl
theorem qf_X6_12 : Cond.lays RX6 "StockLinesModel" "at" "I" ∈ zWs := qt_4 _ (List.mem_of_getElem? (i := 112) rfl) rfl
theorem qf_X6_13 : Cond.lays RX6 "StockLinesModel" "letter" "I" ∈ zWs := qt_4 _ (List.mem_of_getElem? (i := 114) rfl) rfl
theorem qf_X6_14 : Cond.lays RX6 "StockLinesModel" "one" "I" ∈ zWs := qt_4 _ (List.mem_of_getElem? (i := 116) rfl) rfl
theorem qf_X6_15 : Cond.lays RX6 "StockLinesModel" "other" "I" ∈ zWs := qt_4 _ (List.mem_of_getElem? (i := 118) rfl) rfl
theorem qf_X6_16 : Cond.lays RX6 "StockLinesModel" "hash" "J" ∈ zWs := qt_4 _ (List.mem_of_getElem? (i := 120) rfl) rfl
theorem inlX6 : ∀ w ∈ u_ws RX6 TX6 17, w ∈ zWs := by
  show ∀ w ∈ [Cond.laysFinal RX6 "StockLinesModel" "now" "[I", Cond.laysFinal RX6 "StockLinesModel" "past" "[I", Cond.lays RX6 "StockLinesModel" "saved" "I", Cond.laysFinal RX6 "StockLinesModel" "text" "[I", Cond.lays RX6 "StockLinesModel" "length" "I", Cond.lays RX6 "StockLinesModel" "refusal" "I", Cond.laysFinal RX6 "StockLinesModel" "path" "[I", Cond.laysFinal RX6 "StockLinesModel" "sums" "[I", Cond.laysFinal RX6 "StockLinesModel" "taken" "[I", Cond.laysFinal RX6 "StockLinesModel" "best" "[I", Cond.lays RX6 "StockLinesModel" "bestMany" "I", Cond.lays RX6 "StockLinesModel" "bestSum" "I", Cond.lays RX6 "StockLinesModel" "at" "I", Cond.lays RX6 "StockLinesModel" "letter" "I", Cond.lays RX6 "StockLinesModel" "one" "I", Cond.lays RX6 "StockLinesModel" "other" "I", Cond.lays RX6 "StockLinesModel" "hash" "J"], w ∈ zWs
  exact List.forall_mem_cons.mpr ⟨qf_X6_0, List.forall_mem_cons.mpr ⟨qf_X6_1, List.forall_mem_cons.mpr ⟨qf_X6_2, List.forall_mem_cons.mpr ⟨qf_X6_3, List.forall_mem_cons.mpr ⟨qf_X6_4, List.forall_mem_cons.mpr ⟨qf_X6_5, List.forall_mem_cons.mpr ⟨qf_X6_6, List.forall_mem_cons.mpr ⟨qf_X6_7, List.forall_mem_cons.mpr ⟨qf_X6_8, List.forall_mem_cons.mpr ⟨qf_X6_9, List.forall_mem_cons.mpr ⟨qf_X6_10, List.forall_mem_cons.mpr ⟨qf_X6_11, List.forall_mem_cons.mpr ⟨qf_X6_12, List.forall_mem_cons.mpr ⟨qf_X6_13, List.forall_mem_cons.mpr ⟨qf_X6_14, List.forall_mem_cons.mpr ⟨qf_X6_15, List.forall_mem_cons.mpr ⟨qf_X6_16, fun _ h => absurd h List.not_mem_nil⟩⟩⟩⟩⟩⟩⟩⟩⟩⟩⟩⟩⟩⟩⟩⟩⟩
