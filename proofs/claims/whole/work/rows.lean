section
-- ===== PART A: goes FIRST, ahead of the names: the tables' words, and 'selects' of the private methods out of them =====
/-- a private method of a class that the tables say can be made, by its rows of tables_1 -/
def lw_okq (q : MethodName × Nat) : Prop := (q.1.cls ≠ "java/lang/invoke/MethodHandle" ∧ q.1.cls ≠ "java/lang/invoke/VarHandle") ∧ Cond.instantiable q.1.cls q.2 ∈ tables_1 ∧ Cond.privateMethod q.1 ∈ tables_1 ∧ Cond.instanceMethod q.1 ∈ tables_1
theorem lw_p0 : lw_okq (⟨"StockLines", "saveState", "()V"⟩, 4) := ⟨⟨by decide +kernel, by decide +kernel⟩, List.mem_of_getElem? (i := 18) (by decide +kernel), List.mem_of_getElem? (i := 281) (by decide +kernel), List.mem_of_getElem? (i := 282) (by decide +kernel)⟩
theorem lw_p1 : lw_okq (⟨"StockLines", "makeMove", "(I)Z"⟩, 4) := ⟨⟨by decide +kernel, by decide +kernel⟩, List.mem_of_getElem? (i := 18) (by decide +kernel), List.mem_of_getElem? (i := 302) (by decide +kernel), List.mem_of_getElem? (i := 303) (by decide +kernel)⟩
theorem lw_p2 : lw_okq (⟨"StockLines$Game", "playerPays", "(II)V"⟩, 15) := ⟨⟨by decide +kernel, by decide +kernel⟩, List.mem_of_getElem? (i := 58) (by decide +kernel), List.mem_of_getElem? (i := 322) (by decide +kernel), List.mem_of_getElem? (i := 323) (by decide +kernel)⟩
theorem lw_p3 : lw_okq (⟨"StockLines$Game", "endActiveTurn", "()V"⟩, 15) := ⟨⟨by decide +kernel, by decide +kernel⟩, List.mem_of_getElem? (i := 58) (by decide +kernel), List.mem_of_getElem? (i := 330) (by decide +kernel), List.mem_of_getElem? (i := 331) (by decide +kernel)⟩
theorem lw_p4 : lw_okq (⟨"StockLines$Game", "nextTurn", "()V"⟩, 15) := ⟨⟨by decide +kernel, by decide +kernel⟩, List.mem_of_getElem? (i := 58) (by decide +kernel), List.mem_of_getElem? (i := 334) (by decide +kernel), List.mem_of_getElem? (i := 335) (by decide +kernel)⟩
theorem lw_p5 : lw_okq (⟨"StockLines$Game", "beginOperating", "()V"⟩, 15) := ⟨⟨by decide +kernel, by decide +kernel⟩, List.mem_of_getElem? (i := 58) (by decide +kernel), List.mem_of_getElem? (i := 355) (by decide +kernel), List.mem_of_getElem? (i := 356) (by decide +kernel)⟩
theorem lw_p6 : lw_okq (⟨"StockLines$Game", "putInOrder", "(I)V"⟩, 15) := ⟨⟨by decide +kernel, by decide +kernel⟩, List.mem_of_getElem? (i := 58) (by decide +kernel), List.mem_of_getElem? (i := 359) (by decide +kernel), List.mem_of_getElem? (i := 360) (by decide +kernel)⟩
theorem lw_p7 : lw_okq (⟨"StockLines$Game", "endOperatingIfOver", "()V"⟩, 15) := ⟨⟨by decide +kernel, by decide +kernel⟩, List.mem_of_getElem? (i := 58) (by decide +kernel), List.mem_of_getElem? (i := 363) (by decide +kernel), List.mem_of_getElem? (i := 364) (by decide +kernel)⟩
theorem lw_p8 : lw_okq (⟨"StockLines$RouteSearch", "markNeighbours", "([II)Z"⟩, 8) := ⟨⟨by decide +kernel, by decide +kernel⟩, List.mem_of_getElem? (i := 26) (by decide +kernel), List.mem_of_getElem? (i := 387) (by decide +kernel), List.mem_of_getElem? (i := 388) (by decide +kernel)⟩
theorem lw_p9 : lw_okq (⟨"StockLines$Game", "companyPays", "(LStockLines$Company;I)V"⟩, 15) := ⟨⟨by decide +kernel, by decide +kernel⟩, List.mem_of_getElem? (i := 58) (by decide +kernel), List.mem_of_getElem? (i := 403) (by decide +kernel), List.mem_of_getElem? (i := 404) (by decide +kernel)⟩
theorem lw_p10 : lw_okq (⟨"StockLines$RouteSearch", "keep", "(II)V"⟩, 8) := ⟨⟨by decide +kernel, by decide +kernel⟩, List.mem_of_getElem? (i := 26) (by decide +kernel), List.mem_of_getElem? (i := 422) (by decide +kernel), List.mem_of_getElem? (i := 423) (by decide +kernel)⟩
theorem lw_p11 : lw_okq (⟨"StockLines$Game", "payOut", "(LStockLines$Company;I)V"⟩, 15) := ⟨⟨by decide +kernel, by decide +kernel⟩, List.mem_of_getElem? (i := 58) (by decide +kernel), List.mem_of_getElem? (i := 434) (by decide +kernel), List.mem_of_getElem? (i := 435) (by decide +kernel)⟩
theorem lw_p12 : lw_okq (⟨"StockLines$Game", "payUpkeep", "(LStockLines$Company;)V"⟩, 15) := ⟨⟨by decide +kernel, by decide +kernel⟩, List.mem_of_getElem? (i := 58) (by decide +kernel), List.mem_of_getElem? (i := 442) (by decide +kernel), List.mem_of_getElem? (i := 443) (by decide +kernel)⟩
theorem lw_p13 : lw_okq (⟨"StockLines$Game", "payRest", "(II)I"⟩, 15) := ⟨⟨by decide +kernel, by decide +kernel⟩, List.mem_of_getElem? (i := 58) (by decide +kernel), List.mem_of_getElem? (i := 447) (by decide +kernel), List.mem_of_getElem? (i := 448) (by decide +kernel)⟩
theorem lw_p14 : lw_okq (⟨"StockLines$Game", "cheapestHeld", "(I)I"⟩, 15) := ⟨⟨by decide +kernel, by decide +kernel⟩, List.mem_of_getElem? (i := 58) (by decide +kernel), List.mem_of_getElem? (i := 451) (by decide +kernel), List.mem_of_getElem? (i := 452) (by decide +kernel)⟩
theorem lw_p15 : lw_okq (⟨"java/lang/Throwable", "fillInStackTrace", "(I)Ljava/lang/Throwable;"⟩, 6) := ⟨⟨by decide +kernel, by decide +kernel⟩, List.mem_of_getElem? (i := 508) (by decide +kernel), List.mem_of_getElem? (i := 506) (by decide +kernel), List.mem_of_getElem? (i := 507) (by decide +kernel)⟩
def lw_privs_1 : List (MethodName × Nat) := [(⟨"StockLines", "saveState", "()V"⟩, 4), (⟨"StockLines", "makeMove", "(I)Z"⟩, 4), (⟨"StockLines$Game", "playerPays", "(II)V"⟩, 15), (⟨"StockLines$Game", "endActiveTurn", "()V"⟩, 15), (⟨"StockLines$Game", "nextTurn", "()V"⟩, 15), (⟨"StockLines$Game", "beginOperating", "()V"⟩, 15), (⟨"StockLines$Game", "putInOrder", "(I)V"⟩, 15), (⟨"StockLines$Game", "endOperatingIfOver", "()V"⟩, 15), (⟨"StockLines$RouteSearch", "markNeighbours", "([II)Z"⟩, 8), (⟨"StockLines$Game", "companyPays", "(LStockLines$Company;I)V"⟩, 15), (⟨"StockLines$RouteSearch", "keep", "(II)V"⟩, 8), (⟨"StockLines$Game", "payOut", "(LStockLines$Company;I)V"⟩, 15), (⟨"StockLines$Game", "payUpkeep", "(LStockLines$Company;)V"⟩, 15), (⟨"StockLines$Game", "payRest", "(II)I"⟩, 15), (⟨"StockLines$Game", "cheapestHeld", "(I)I"⟩, 15), (⟨"java/lang/Throwable", "fillInStackTrace", "(I)Ljava/lang/Throwable;"⟩, 6)]
theorem lw_r1 : ∀ q ∈ lw_privs_1, lw_okq q := List.forall_mem_cons.mpr ⟨lw_p0, List.forall_mem_cons.mpr ⟨lw_p1, List.forall_mem_cons.mpr ⟨lw_p2, List.forall_mem_cons.mpr ⟨lw_p3, List.forall_mem_cons.mpr ⟨lw_p4, List.forall_mem_cons.mpr ⟨lw_p5, List.forall_mem_cons.mpr ⟨lw_p6, List.forall_mem_cons.mpr ⟨lw_p7, List.forall_mem_cons.mpr ⟨lw_p8, List.forall_mem_cons.mpr ⟨lw_p9, List.forall_mem_cons.mpr ⟨lw_p10, List.forall_mem_cons.mpr ⟨lw_p11, List.forall_mem_cons.mpr ⟨lw_p12, List.forall_mem_cons.mpr ⟨lw_p13, List.forall_mem_cons.mpr ⟨lw_p14, List.forall_mem_cons.mpr ⟨lw_p15, fun _ h => absurd h List.not_mem_nil⟩⟩⟩⟩⟩⟩⟩⟩⟩⟩⟩⟩⟩⟩⟩⟩
theorem lw_p16 : lw_okq (⟨"StockLinesModel", "begins", "(I)V"⟩, 17) := ⟨⟨by decide +kernel, by decide +kernel⟩, List.mem_of_getElem? (i := 782) (by decide +kernel), List.mem_of_getElem? (i := 788) (by decide +kernel), List.mem_of_getElem? (i := 789) (by decide +kernel)⟩
theorem lw_p17 : lw_okq (⟨"StockLinesModel", "refused", "(I)Z"⟩, 17) := ⟨⟨by decide +kernel, by decide +kernel⟩, List.mem_of_getElem? (i := 782) (by decide +kernel), List.mem_of_getElem? (i := 852) (by decide +kernel), List.mem_of_getElem? (i := 853) (by decide +kernel)⟩
theorem lw_p18 : lw_okq (⟨"StockLinesModel", "saves", "()V"⟩, 17) := ⟨⟨by decide +kernel, by decide +kernel⟩, List.mem_of_getElem? (i := 782) (by decide +kernel), List.mem_of_getElem? (i := 863) (by decide +kernel), List.mem_of_getElem? (i := 864) (by decide +kernel)⟩
theorem lw_p19 : lw_okq (⟨"StockLinesModel", "isStock", "()Z"⟩, 17) := ⟨⟨by decide +kernel, by decide +kernel⟩, List.mem_of_getElem? (i := 782) (by decide +kernel), List.mem_of_getElem? (i := 881) (by decide +kernel), List.mem_of_getElem? (i := 882) (by decide +kernel)⟩
theorem lw_p20 : lw_okq (⟨"StockLinesModel", "isOpen", "(I)Z"⟩, 17) := ⟨⟨by decide +kernel, by decide +kernel⟩, List.mem_of_getElem? (i := 782) (by decide +kernel), List.mem_of_getElem? (i := 885) (by decide +kernel), List.mem_of_getElem? (i := 886) (by decide +kernel)⟩
theorem lw_p21 : lw_okq (⟨"StockLinesModel", "of", "(II)I"⟩, 17) := ⟨⟨by decide +kernel, by decide +kernel⟩, List.mem_of_getElem? (i := 782) (by decide +kernel), List.mem_of_getElem? (i := 889) (by decide +kernel), List.mem_of_getElem? (i := 890) (by decide +kernel)⟩
theorem lw_p22 : lw_okq (⟨"StockLinesModel", "purse", "()I"⟩, 17) := ⟨⟨by decide +kernel, by decide +kernel⟩, List.mem_of_getElem? (i := 782) (by decide +kernel), List.mem_of_getElem? (i := 893) (by decide +kernel), List.mem_of_getElem? (i := 894) (by decide +kernel)⟩
theorem lw_p23 : lw_okq (⟨"StockLinesModel", "price", "(I)I"⟩, 17) := ⟨⟨by decide +kernel, by decide +kernel⟩, List.mem_of_getElem? (i := 782) (by decide +kernel), List.mem_of_getElem? (i := 897) (by decide +kernel), List.mem_of_getElem? (i := 898) (by decide +kernel)⟩
theorem lw_p24 : lw_okq (⟨"StockLinesModel", "pays", "(II)V"⟩, 17) := ⟨⟨by decide +kernel, by decide +kernel⟩, List.mem_of_getElem? (i := 782) (by decide +kernel), List.mem_of_getElem? (i := 901) (by decide +kernel), List.mem_of_getElem? (i := 902) (by decide +kernel)⟩
theorem lw_p25 : lw_okq (⟨"StockLinesModel", "holds", "(III)V"⟩, 17) := ⟨⟨by decide +kernel, by decide +kernel⟩, List.mem_of_getElem? (i := 782) (by decide +kernel), List.mem_of_getElem? (i := 905) (by decide +kernel), List.mem_of_getElem? (i := 906) (by decide +kernel)⟩
theorem lw_p26 : lw_okq (⟨"StockLinesModel", "presides", "(I)V"⟩, 17) := ⟨⟨by decide +kernel, by decide +kernel⟩, List.mem_of_getElem? (i := 782) (by decide +kernel), List.mem_of_getElem? (i := 909) (by decide +kernel), List.mem_of_getElem? (i := 910) (by decide +kernel)⟩
theorem lw_p27 : lw_okq (⟨"StockLinesModel", "shares", "(II)I"⟩, 17) := ⟨⟨by decide +kernel, by decide +kernel⟩, List.mem_of_getElem? (i := 782) (by decide +kernel), List.mem_of_getElem? (i := 913) (by decide +kernel), List.mem_of_getElem? (i := 914) (by decide +kernel)⟩
theorem lw_p28 : lw_okq (⟨"StockLinesModel", "earns", "(II)V"⟩, 17) := ⟨⟨by decide +kernel, by decide +kernel⟩, List.mem_of_getElem? (i := 782) (by decide +kernel), List.mem_of_getElem? (i := 917) (by decide +kernel), List.mem_of_getElem? (i := 918) (by decide +kernel)⟩
theorem lw_p29 : lw_okq (⟨"StockLinesModel", "ends", "()V"⟩, 17) := ⟨⟨by decide +kernel, by decide +kernel⟩, List.mem_of_getElem? (i := 782) (by decide +kernel), List.mem_of_getElem? (i := 921) (by decide +kernel), List.mem_of_getElem? (i := 922) (by decide +kernel)⟩
theorem lw_p30 : lw_okq (⟨"StockLinesModel", "turns", "()V"⟩, 17) := ⟨⟨by decide +kernel, by decide +kernel⟩, List.mem_of_getElem? (i := 782) (by decide +kernel), List.mem_of_getElem? (i := 925) (by decide +kernel), List.mem_of_getElem? (i := 926) (by decide +kernel)⟩
theorem lw_p31 : lw_okq (⟨"StockLinesModel", "canBuy", "(I)Z"⟩, 17) := ⟨⟨by decide +kernel, by decide +kernel⟩, List.mem_of_getElem? (i := 782) (by decide +kernel), List.mem_of_getElem? (i := 933) (by decide +kernel), List.mem_of_getElem? (i := 934) (by decide +kernel)⟩
def lw_privs_2 : List (MethodName × Nat) := [(⟨"StockLinesModel", "begins", "(I)V"⟩, 17), (⟨"StockLinesModel", "refused", "(I)Z"⟩, 17), (⟨"StockLinesModel", "saves", "()V"⟩, 17), (⟨"StockLinesModel", "isStock", "()Z"⟩, 17), (⟨"StockLinesModel", "isOpen", "(I)Z"⟩, 17), (⟨"StockLinesModel", "of", "(II)I"⟩, 17), (⟨"StockLinesModel", "purse", "()I"⟩, 17), (⟨"StockLinesModel", "price", "(I)I"⟩, 17), (⟨"StockLinesModel", "pays", "(II)V"⟩, 17), (⟨"StockLinesModel", "holds", "(III)V"⟩, 17), (⟨"StockLinesModel", "presides", "(I)V"⟩, 17), (⟨"StockLinesModel", "shares", "(II)I"⟩, 17), (⟨"StockLinesModel", "earns", "(II)V"⟩, 17), (⟨"StockLinesModel", "ends", "()V"⟩, 17), (⟨"StockLinesModel", "turns", "()V"⟩, 17), (⟨"StockLinesModel", "canBuy", "(I)Z"⟩, 17)]
theorem lw_r2 : ∀ q ∈ lw_privs_2, lw_okq q := List.forall_mem_cons.mpr ⟨lw_p16, List.forall_mem_cons.mpr ⟨lw_p17, List.forall_mem_cons.mpr ⟨lw_p18, List.forall_mem_cons.mpr ⟨lw_p19, List.forall_mem_cons.mpr ⟨lw_p20, List.forall_mem_cons.mpr ⟨lw_p21, List.forall_mem_cons.mpr ⟨lw_p22, List.forall_mem_cons.mpr ⟨lw_p23, List.forall_mem_cons.mpr ⟨lw_p24, List.forall_mem_cons.mpr ⟨lw_p25, List.forall_mem_cons.mpr ⟨lw_p26, List.forall_mem_cons.mpr ⟨lw_p27, List.forall_mem_cons.mpr ⟨lw_p28, List.forall_mem_cons.mpr ⟨lw_p29, List.forall_mem_cons.mpr ⟨lw_p30, List.forall_mem_cons.mpr ⟨lw_p31, fun _ h => absurd h List.not_mem_nil⟩⟩⟩⟩⟩⟩⟩⟩⟩⟩⟩⟩⟩⟩⟩⟩
theorem lw_p32 : lw_okq (⟨"StockLinesModel", "rest", "(I)I"⟩, 17) := ⟨⟨by decide +kernel, by decide +kernel⟩, List.mem_of_getElem? (i := 782) (by decide +kernel), List.mem_of_getElem? (i := 937) (by decide +kernel), List.mem_of_getElem? (i := 938) (by decide +kernel)⟩
theorem lw_p33 : lw_okq (⟨"StockLinesModel", "buys", "(I)I"⟩, 17) := ⟨⟨by decide +kernel, by decide +kernel⟩, List.mem_of_getElem? (i := 782) (by decide +kernel), List.mem_of_getElem? (i := 941) (by decide +kernel), List.mem_of_getElem? (i := 942) (by decide +kernel)⟩
theorem lw_p34 : lw_okq (⟨"StockLinesModel", "canSell", "(II)Z"⟩, 17) := ⟨⟨by decide +kernel, by decide +kernel⟩, List.mem_of_getElem? (i := 782) (by decide +kernel), List.mem_of_getElem? (i := 949) (by decide +kernel), List.mem_of_getElem? (i := 950) (by decide +kernel)⟩
theorem lw_p35 : lw_okq (⟨"StockLinesModel", "sells", "(II)I"⟩, 17) := ⟨⟨by decide +kernel, by decide +kernel⟩, List.mem_of_getElem? (i := 782) (by decide +kernel), List.mem_of_getElem? (i := 953) (by decide +kernel), List.mem_of_getElem? (i := 954) (by decide +kernel)⟩
theorem lw_p36 : lw_okq (⟨"StockLinesModel", "shifts", "(II)V"⟩, 17) := ⟨⟨by decide +kernel, by decide +kernel⟩, List.mem_of_getElem? (i := 782) (by decide +kernel), List.mem_of_getElem? (i := 957) (by decide +kernel), List.mem_of_getElem? (i := 958) (by decide +kernel)⟩
theorem lw_p37 : lw_okq (⟨"StockLinesModel", "canMerge", "(II)Z"⟩, 17) := ⟨⟨by decide +kernel, by decide +kernel⟩, List.mem_of_getElem? (i := 782) (by decide +kernel), List.mem_of_getElem? (i := 965) (by decide +kernel), List.mem_of_getElem? (i := 966) (by decide +kernel)⟩
theorem lw_p38 : lw_okq (⟨"StockLinesModel", "wanted", "(I)I"⟩, 17) := ⟨⟨by decide +kernel, by decide +kernel⟩, List.mem_of_getElem? (i := 782) (by decide +kernel), List.mem_of_getElem? (i := 969) (by decide +kernel), List.mem_of_getElem? (i := 970) (by decide +kernel)⟩
theorem lw_p39 : lw_okq (⟨"StockLinesModel", "closes", "(I)V"⟩, 17) := ⟨⟨by decide +kernel, by decide +kernel⟩, List.mem_of_getElem? (i := 782) (by decide +kernel), List.mem_of_getElem? (i := 973) (by decide +kernel), List.mem_of_getElem? (i := 974) (by decide +kernel)⟩
theorem lw_p40 : lw_okq (⟨"StockLinesModel", "passes", "()I"⟩, 17) := ⟨⟨by decide +kernel, by decide +kernel⟩, List.mem_of_getElem? (i := 782) (by decide +kernel), List.mem_of_getElem? (i := 981) (by decide +kernel), List.mem_of_getElem? (i := 982) (by decide +kernel)⟩
theorem lw_p41 : lw_okq (⟨"StockLinesModel", "orders", "()V"⟩, 17) := ⟨⟨by decide +kernel, by decide +kernel⟩, List.mem_of_getElem? (i := 782) (by decide +kernel), List.mem_of_getElem? (i := 985) (by decide +kernel), List.mem_of_getElem? (i := 986) (by decide +kernel)⟩
theorem lw_p42 : lw_okq (⟨"StockLinesModel", "isAhead", "(II)Z"⟩, 17) := ⟨⟨by decide +kernel, by decide +kernel⟩, List.mem_of_getElem? (i := 782) (by decide +kernel), List.mem_of_getElem? (i := 989) (by decide +kernel), List.mem_of_getElem? (i := 990) (by decide +kernel)⟩
theorem lw_p43 : lw_okq (⟨"StockLinesModel", "goesOn", "()V"⟩, 17) := ⟨⟨by decide +kernel, by decide +kernel⟩, List.mem_of_getElem? (i := 782) (by decide +kernel), List.mem_of_getElem? (i := 993) (by decide +kernel), List.mem_of_getElem? (i := 994) (by decide +kernel)⟩
theorem lw_p44 : lw_okq (⟨"StockLinesModel", "next", "()I"⟩, 17) := ⟨⟨by decide +kernel, by decide +kernel⟩, List.mem_of_getElem? (i := 782) (by decide +kernel), List.mem_of_getElem? (i := 1001) (by decide +kernel), List.mem_of_getElem? (i := 1002) (by decide +kernel)⟩
theorem lw_p45 : lw_okq (⟨"StockLinesModel", "canOperate", "(II)Z"⟩, 17) := ⟨⟨by decide +kernel, by decide +kernel⟩, List.mem_of_getElem? (i := 782) (by decide +kernel), List.mem_of_getElem? (i := 1009) (by decide +kernel), List.mem_of_getElem? (i := 1010) (by decide +kernel)⟩
theorem lw_p46 : lw_okq (⟨"StockLinesModel", "canLay", "(III)Z"⟩, 17) := ⟨⟨by decide +kernel, by decide +kernel⟩, List.mem_of_getElem? (i := 782) (by decide +kernel), List.mem_of_getElem? (i := 1013) (by decide +kernel), List.mem_of_getElem? (i := 1014) (by decide +kernel)⟩
theorem lw_p47 : lw_okq (⟨"StockLinesModel", "joined", "(I)I"⟩, 17) := ⟨⟨by decide +kernel, by decide +kernel⟩, List.mem_of_getElem? (i := 782) (by decide +kernel), List.mem_of_getElem? (i := 1017) (by decide +kernel), List.mem_of_getElem? (i := 1018) (by decide +kernel)⟩
def lw_privs_3 : List (MethodName × Nat) := [(⟨"StockLinesModel", "rest", "(I)I"⟩, 17), (⟨"StockLinesModel", "buys", "(I)I"⟩, 17), (⟨"StockLinesModel", "canSell", "(II)Z"⟩, 17), (⟨"StockLinesModel", "sells", "(II)I"⟩, 17), (⟨"StockLinesModel", "shifts", "(II)V"⟩, 17), (⟨"StockLinesModel", "canMerge", "(II)Z"⟩, 17), (⟨"StockLinesModel", "wanted", "(I)I"⟩, 17), (⟨"StockLinesModel", "closes", "(I)V"⟩, 17), (⟨"StockLinesModel", "passes", "()I"⟩, 17), (⟨"StockLinesModel", "orders", "()V"⟩, 17), (⟨"StockLinesModel", "isAhead", "(II)Z"⟩, 17), (⟨"StockLinesModel", "goesOn", "()V"⟩, 17), (⟨"StockLinesModel", "next", "()I"⟩, 17), (⟨"StockLinesModel", "canOperate", "(II)Z"⟩, 17), (⟨"StockLinesModel", "canLay", "(III)Z"⟩, 17), (⟨"StockLinesModel", "joined", "(I)I"⟩, 17)]
theorem lw_r3 : ∀ q ∈ lw_privs_3, lw_okq q := List.forall_mem_cons.mpr ⟨lw_p32, List.forall_mem_cons.mpr ⟨lw_p33, List.forall_mem_cons.mpr ⟨lw_p34, List.forall_mem_cons.mpr ⟨lw_p35, List.forall_mem_cons.mpr ⟨lw_p36, List.forall_mem_cons.mpr ⟨lw_p37, List.forall_mem_cons.mpr ⟨lw_p38, List.forall_mem_cons.mpr ⟨lw_p39, List.forall_mem_cons.mpr ⟨lw_p40, List.forall_mem_cons.mpr ⟨lw_p41, List.forall_mem_cons.mpr ⟨lw_p42, List.forall_mem_cons.mpr ⟨lw_p43, List.forall_mem_cons.mpr ⟨lw_p44, List.forall_mem_cons.mpr ⟨lw_p45, List.forall_mem_cons.mpr ⟨lw_p46, List.forall_mem_cons.mpr ⟨lw_p47, fun _ h => absurd h List.not_mem_nil⟩⟩⟩⟩⟩⟩⟩⟩⟩⟩⟩⟩⟩⟩⟩⟩
theorem lw_p48 : lw_okq (⟨"StockLinesModel", "level", "(II)I"⟩, 17) := ⟨⟨by decide +kernel, by decide +kernel⟩, List.mem_of_getElem? (i := 782) (by decide +kernel), List.mem_of_getElem? (i := 1024) (by decide +kernel), List.mem_of_getElem? (i := 1025) (by decide +kernel)⟩
theorem lw_p49 : lw_okq (⟨"StockLinesModel", "operates", "(IIZ)I"⟩, 17) := ⟨⟨by decide +kernel, by decide +kernel⟩, List.mem_of_getElem? (i := 782) (by decide +kernel), List.mem_of_getElem? (i := 1028) (by decide +kernel), List.mem_of_getElem? (i := 1029) (by decide +kernel)⟩
theorem lw_p50 : lw_okq (⟨"StockLinesModel", "levels", "(III)V"⟩, 17) := ⟨⟨by decide +kernel, by decide +kernel⟩, List.mem_of_getElem? (i := 782) (by decide +kernel), List.mem_of_getElem? (i := 1032) (by decide +kernel), List.mem_of_getElem? (i := 1033) (by decide +kernel)⟩
theorem lw_p51 : lw_okq (⟨"StockLinesModel", "income", "(I)I"⟩, 17) := ⟨⟨by decide +kernel, by decide +kernel⟩, List.mem_of_getElem? (i := 782) (by decide +kernel), List.mem_of_getElem? (i := 1036) (by decide +kernel), List.mem_of_getElem? (i := 1037) (by decide +kernel)⟩
theorem lw_p52 : lw_okq (⟨"StockLinesModel", "findsRoute", "(I)V"⟩, 17) := ⟨⟨by decide +kernel, by decide +kernel⟩, List.mem_of_getElem? (i := 782) (by decide +kernel), List.mem_of_getElem? (i := 1040) (by decide +kernel), List.mem_of_getElem? (i := 1041) (by decide +kernel)⟩
theorem lw_p53 : lw_okq (⟨"StockLinesModel", "comes", "(II)V"⟩, 17) := ⟨⟨by decide +kernel, by decide +kernel⟩, List.mem_of_getElem? (i := 782) (by decide +kernel), List.mem_of_getElem? (i := 1044) (by decide +kernel), List.mem_of_getElem? (i := 1045) (by decide +kernel)⟩
theorem lw_p54 : lw_okq (⟨"StockLinesModel", "keepsBest", "(I)V"⟩, 17) := ⟨⟨by decide +kernel, by decide +kernel⟩, List.mem_of_getElem? (i := 782) (by decide +kernel), List.mem_of_getElem? (i := 1048) (by decide +kernel), List.mem_of_getElem? (i := 1049) (by decide +kernel)⟩
theorem lw_p55 : lw_okq (⟨"StockLinesModel", "upkeep", "(I)V"⟩, 17) := ⟨⟨by decide +kernel, by decide +kernel⟩, List.mem_of_getElem? (i := 782) (by decide +kernel), List.mem_of_getElem? (i := 1052) (by decide +kernel), List.mem_of_getElem? (i := 1053) (by decide +kernel)⟩
theorem lw_p56 : lw_okq (⟨"StockLinesModel", "isPaid", "(II)Z"⟩, 17) := ⟨⟨by decide +kernel, by decide +kernel⟩, List.mem_of_getElem? (i := 782) (by decide +kernel), List.mem_of_getElem? (i := 1056) (by decide +kernel), List.mem_of_getElem? (i := 1057) (by decide +kernel)⟩
theorem lw_p57 : lw_okq (⟨"StockLinesModel", "cheapest", "(I)I"⟩, 17) := ⟨⟨by decide +kernel, by decide +kernel⟩, List.mem_of_getElem? (i := 782) (by decide +kernel), List.mem_of_getElem? (i := 1060) (by decide +kernel), List.mem_of_getElem? (i := 1061) (by decide +kernel)⟩
theorem lw_p58 : lw_okq (⟨"StockLinesModel", "isPlayer", "(I)Z"⟩, 17) := ⟨⟨by decide +kernel, by decide +kernel⟩, List.mem_of_getElem? (i := 782) (by decide +kernel), List.mem_of_getElem? (i := 1068) (by decide +kernel), List.mem_of_getElem? (i := 1069) (by decide +kernel)⟩
theorem lw_p59 : lw_okq (⟨"StockLinesModel", "tellPlayer", "(II)I"⟩, 17) := ⟨⟨by decide +kernel, by decide +kernel⟩, List.mem_of_getElem? (i := 782) (by decide +kernel), List.mem_of_getElem? (i := 1072) (by decide +kernel), List.mem_of_getElem? (i := 1073) (by decide +kernel)⟩
theorem lw_p60 : lw_okq (⟨"StockLinesModel", "worth", "(I)I"⟩, 17) := ⟨⟨by decide +kernel, by decide +kernel⟩, List.mem_of_getElem? (i := 782) (by decide +kernel), List.mem_of_getElem? (i := 1076) (by decide +kernel), List.mem_of_getElem? (i := 1077) (by decide +kernel)⟩
theorem lw_p61 : lw_okq (⟨"StockLinesModel", "presidencies", "(I)I"⟩, 17) := ⟨⟨by decide +kernel, by decide +kernel⟩, List.mem_of_getElem? (i := 782) (by decide +kernel), List.mem_of_getElem? (i := 1080) (by decide +kernel), List.mem_of_getElem? (i := 1081) (by decide +kernel)⟩
theorem lw_p62 : lw_okq (⟨"StockLinesModel", "tellCompany", "(II)I"⟩, 17) := ⟨⟨by decide +kernel, by decide +kernel⟩, List.mem_of_getElem? (i := 782) (by decide +kernel), List.mem_of_getElem? (i := 1088) (by decide +kernel), List.mem_of_getElem? (i := 1089) (by decide +kernel)⟩
theorem lw_p63 : lw_okq (⟨"StockLinesModel", "tellValue", "(I)I"⟩, 17) := ⟨⟨by decide +kernel, by decide +kernel⟩, List.mem_of_getElem? (i := 782) (by decide +kernel), List.mem_of_getElem? (i := 1100) (by decide +kernel), List.mem_of_getElem? (i := 1101) (by decide +kernel)⟩
def lw_privs_4 : List (MethodName × Nat) := [(⟨"StockLinesModel", "level", "(II)I"⟩, 17), (⟨"StockLinesModel", "operates", "(IIZ)I"⟩, 17), (⟨"StockLinesModel", "levels", "(III)V"⟩, 17), (⟨"StockLinesModel", "income", "(I)I"⟩, 17), (⟨"StockLinesModel", "findsRoute", "(I)V"⟩, 17), (⟨"StockLinesModel", "comes", "(II)V"⟩, 17), (⟨"StockLinesModel", "keepsBest", "(I)V"⟩, 17), (⟨"StockLinesModel", "upkeep", "(I)V"⟩, 17), (⟨"StockLinesModel", "isPaid", "(II)Z"⟩, 17), (⟨"StockLinesModel", "cheapest", "(I)I"⟩, 17), (⟨"StockLinesModel", "isPlayer", "(I)Z"⟩, 17), (⟨"StockLinesModel", "tellPlayer", "(II)I"⟩, 17), (⟨"StockLinesModel", "worth", "(I)I"⟩, 17), (⟨"StockLinesModel", "presidencies", "(I)I"⟩, 17), (⟨"StockLinesModel", "tellCompany", "(II)I"⟩, 17), (⟨"StockLinesModel", "tellValue", "(I)I"⟩, 17)]
theorem lw_r4 : ∀ q ∈ lw_privs_4, lw_okq q := List.forall_mem_cons.mpr ⟨lw_p48, List.forall_mem_cons.mpr ⟨lw_p49, List.forall_mem_cons.mpr ⟨lw_p50, List.forall_mem_cons.mpr ⟨lw_p51, List.forall_mem_cons.mpr ⟨lw_p52, List.forall_mem_cons.mpr ⟨lw_p53, List.forall_mem_cons.mpr ⟨lw_p54, List.forall_mem_cons.mpr ⟨lw_p55, List.forall_mem_cons.mpr ⟨lw_p56, List.forall_mem_cons.mpr ⟨lw_p57, List.forall_mem_cons.mpr ⟨lw_p58, List.forall_mem_cons.mpr ⟨lw_p59, List.forall_mem_cons.mpr ⟨lw_p60, List.forall_mem_cons.mpr ⟨lw_p61, List.forall_mem_cons.mpr ⟨lw_p62, List.forall_mem_cons.mpr ⟨lw_p63, fun _ h => absurd h List.not_mem_nil⟩⟩⟩⟩⟩⟩⟩⟩⟩⟩⟩⟩⟩⟩⟩⟩
theorem lw_p64 : lw_okq (⟨"StockLinesModel", "tracks", "()I"⟩, 17) := ⟨⟨by decide +kernel, by decide +kernel⟩, List.mem_of_getElem? (i := 782) (by decide +kernel), List.mem_of_getElem? (i := 1104) (by decide +kernel), List.mem_of_getElem? (i := 1105) (by decide +kernel)⟩
theorem lw_p65 : lw_okq (⟨"StockLinesModel", "openOnes", "()I"⟩, 17) := ⟨⟨by decide +kernel, by decide +kernel⟩, List.mem_of_getElem? (i := 782) (by decide +kernel), List.mem_of_getElem? (i := 1108) (by decide +kernel), List.mem_of_getElem? (i := 1109) (by decide +kernel)⟩
theorem lw_p66 : lw_okq (⟨"StockLinesModel", "incomeBy", "(III)I"⟩, 17) := ⟨⟨by decide +kernel, by decide +kernel⟩, List.mem_of_getElem? (i := 782) (by decide +kernel), List.mem_of_getElem? (i := 1124) (by decide +kernel), List.mem_of_getElem? (i := 1125) (by decide +kernel)⟩
theorem lw_p67 : lw_okq (⟨"StockLinesModel", "takesMove", "()Z"⟩, 17) := ⟨⟨by decide +kernel, by decide +kernel⟩, List.mem_of_getElem? (i := 782) (by decide +kernel), List.mem_of_getElem? (i := 1156) (by decide +kernel), List.mem_of_getElem? (i := 1157) (by decide +kernel)⟩
theorem lw_p68 : lw_okq (⟨"StockLinesModel", "takesDigits", "()Z"⟩, 17) := ⟨⟨by decide +kernel, by decide +kernel⟩, List.mem_of_getElem? (i := 782) (by decide +kernel), List.mem_of_getElem? (i := 1160) (by decide +kernel), List.mem_of_getElem? (i := 1161) (by decide +kernel)⟩
theorem lw_p69 : lw_okq (⟨"StockLinesModel", "isDigit", "(II)Z"⟩, 17) := ⟨⟨by decide +kernel, by decide +kernel⟩, List.mem_of_getElem? (i := 782) (by decide +kernel), List.mem_of_getElem? (i := 1164) (by decide +kernel), List.mem_of_getElem? (i := 1165) (by decide +kernel)⟩
theorem lw_p70 : lw_okq (⟨"StockLinesModel", "digit", "()I"⟩, 17) := ⟨⟨by decide +kernel, by decide +kernel⟩, List.mem_of_getElem? (i := 782) (by decide +kernel), List.mem_of_getElem? (i := 1168) (by decide +kernel), List.mem_of_getElem? (i := 1169) (by decide +kernel)⟩
theorem lw_p71 : lw_okq (⟨"StockLinesModel", "makes", "()Z"⟩, 17) := ⟨⟨by decide +kernel, by decide +kernel⟩, List.mem_of_getElem? (i := 782) (by decide +kernel), List.mem_of_getElem? (i := 1172) (by decide +kernel), List.mem_of_getElem? (i := 1173) (by decide +kernel)⟩
theorem lw_p72 : lw_okq (⟨"StockLinesModel", "mix", "(I)V"⟩, 17) := ⟨⟨by decide +kernel, by decide +kernel⟩, List.mem_of_getElem? (i := 782) (by decide +kernel), List.mem_of_getElem? (i := 1181) (by decide +kernel), List.mem_of_getElem? (i := 1182) (by decide +kernel)⟩
def lw_privs_5 : List (MethodName × Nat) := [(⟨"StockLinesModel", "tracks", "()I"⟩, 17), (⟨"StockLinesModel", "openOnes", "()I"⟩, 17), (⟨"StockLinesModel", "incomeBy", "(III)I"⟩, 17), (⟨"StockLinesModel", "takesMove", "()Z"⟩, 17), (⟨"StockLinesModel", "takesDigits", "()Z"⟩, 17), (⟨"StockLinesModel", "isDigit", "(II)Z"⟩, 17), (⟨"StockLinesModel", "digit", "()I"⟩, 17), (⟨"StockLinesModel", "makes", "()Z"⟩, 17), (⟨"StockLinesModel", "mix", "(I)V"⟩, 17)]
theorem lw_r5 : ∀ q ∈ lw_privs_5, lw_okq q := List.forall_mem_cons.mpr ⟨lw_p64, List.forall_mem_cons.mpr ⟨lw_p65, List.forall_mem_cons.mpr ⟨lw_p66, List.forall_mem_cons.mpr ⟨lw_p67, List.forall_mem_cons.mpr ⟨lw_p68, List.forall_mem_cons.mpr ⟨lw_p69, List.forall_mem_cons.mpr ⟨lw_p70, List.forall_mem_cons.mpr ⟨lw_p71, List.forall_mem_cons.mpr ⟨lw_p72, fun _ h => absurd h List.not_mem_nil⟩⟩⟩⟩⟩⟩⟩⟩⟩
def lw_privs : List (MethodName × Nat) := lw_privs_1 ++ (lw_privs_2 ++ (lw_privs_3 ++ (lw_privs_4 ++ (lw_privs_5))))
def lw_tbl : List Cond := k2_sels lw_privs ++ tables_1
theorem lw_privs_ok : ∀ q ∈ lw_privs, lw_okq q := by
  show ∀ q ∈ lw_privs_1 ++ (lw_privs_2 ++ (lw_privs_3 ++ (lw_privs_4 ++ (lw_privs_5)))), lw_okq q
  exact List.forall_mem_append.mpr ⟨lw_r1, List.forall_mem_append.mpr ⟨lw_r2, List.forall_mem_append.mpr ⟨lw_r3, List.forall_mem_append.mpr ⟨lw_r4, lw_r5⟩⟩⟩⟩
/-- the streams that the claim lets the run draw from -/
abbrev lw_cs : List Choice := [Jvm.Choice.named "NaN.bits"]
theorem lw_bits : nanBits ∈ lw_cs := by first | decide | exact List.mem_cons_self | simp [lw_cs, nanBits]
end
section
/-! ===== BEGIN words of one list among another's, by their places ===== -/
theorem goodIn_r {big : List Cond} (ws : List Cond) (ps : List Nat) (hp : ws = ps.filterMap (fun i => big[i]?)) (h : ws.all goodWord = true) : GoodIn big ws := by
  intro w hw
  have h1 := List.all_eq_true.mp h w hw
  rw [hp] at hw
  obtain ⟨i, -, hi⟩ := List.mem_filterMap.mp hw
  have hm : w ∈ big := by first | exact List.mem_of_getElem? hi | exact List.getElem?_mem hi
  exact ⟨hm, good_of_word h1⟩
theorem goodIn_app {big a b : List Cond} (ha : GoodIn big a) (hb : GoodIn big b) : GoodIn big (a ++ b) := fun w h => (List.mem_append.mp h).elim (ha w) (hb w)
theorem goodIn_ca {big a b : List Cond} {c : Cond} (ha : GoodIn big (c :: a)) (hb : GoodIn big b) : GoodIn big (c :: (a ++ b)) := fun w h => (List.mem_cons.mp h).elim (fun e => ha w (List.mem_cons.mpr (Or.inl e))) (fun h => (List.mem_append.mp h).elim (fun h => ha w (List.mem_cons.mpr (Or.inr h))) (hb w))
theorem goodIn_sub {big ws : List Cond} (hm : ∀ w ∈ ws, w ∈ big) (h : ws.all goodWord = true) : GoodIn big ws := fun w hw => ⟨hm w hw, good_of_word (List.all_eq_true.mp h w hw)⟩
/-! ===== END ===== -/
/-! ===== BEGIN exceptions that leave a method, and their catching by the caller (launches without stack traces) ===== -/
section VXA
/-! The laws vx_back, vx_callV, vx_callS, vx_callSW, vx_throw0, vx_throwS follow proofs of the library, with one case more: JvmDerived/Free/Laws.lean (Back.of_free), Shelf42/LK1.lean (callV, callS), Shelf/KitTraced.lean (throwNew0V, throwNewS). -/
/-- where a method has thrown q: the class by its name, the cell, what was written, the world -/
def vx_T (XC : String → State → State → Prop) (st : State) (q : Addr) (t : State) (mc ms : Nat) (free : Addr → Prop) : Prop :=
  ∃ (E : String) (ce : Cell) (L : List Loc), XC E st t ∧ t.heap[q]? = some ce ∧ ce.vm = .none ∧ st.vm.findClass E = some ce.cls ∧ st.WarmedH t.vm ∧ st.sameButNew ({ t with vm := st.vm } : State) L mc ms ∧ ∀ z ∈ L, free z.base
def vx_Q (Qc : Array Value → State → Outcome → State → Prop) (XC : String → State → State → Prop) (mc ms : Nat) (free : Addr → Prop) : Array Value → State → Outcome → State → Prop := fun a st o t =>
  (Qc a st o t ∧ ∃ L, FrameEnd st o t L mc ms ∧ ∀ q ∈ L, free q.base) ∨ ∃ q, o = .threw q ∧ vx_T XC st q t mc ms free
/-- a callee that returns or throws -/
def vx_Met (l : Launch) (y : MethodName) (ws : List Cond) (rm : Room) (Pc : Array Value → State → Prop) (Qc : Array Value → State → Outcome → State → Prop) (XC : String → State → State → Prop) (mc ms : Nat) (free : Addr → Prop) : Prop :=
  MetFree l y (headSpec ws rm) Pc (fun _ _ _ _ _ => True) (vx_Q Qc XC mc ms free)
def vx_Post (XC : String → State → State → Prop) (mc ms : Nat) (free : Addr → Prop) : Pt → Array Value → Addr → Pt → Prop := fun A a q B =>
  ∃ (g : JFrame) (mk : MethodId) (t : State) (L : List Loc) (E : String) (ce : Cell), B.U.heap = t.heap ∧ B.U.vm = t.vm ∧ XC E (A.U.calling g mk a) t ∧ t.heap[q]? = some ce ∧ ce.vm = .none ∧ A.U.vm.findClass E = some ce.cls ∧ B.locs = A.locs ++ L ∧ (∀ z ∈ L, free z.base) ∧ B.cells = A.cells + mc ∧ B.slots = A.slots + ms
def vx_Back (l : Launch) (R : Room) (p : Program) (e : Env) (below : List Frame) (s : State) (sargs : Array Value) (y : MethodName) (len W9 : Nat)
    (Pre : Pt → Array Value → Prop) (Post : Pt → Array Value → Option Value → Pt → Prop) (PostX : Pt → Array Value → Addr → Pt → Prop) : Prop :=
  ∀ (m : MethodId) (meth : Method) (c : Code) (A : Pt) (g : JFrame) (ig : Instr) (mk : MethodId) (a : Array Value),
    Stand p l e R s m sargs below meth c A.U A.locs A.cells A.slots → g.method = m → g.locals.size = c.maxLocals → decode c.code g.pc = .ok (ig, len) →
    2 * g.monitorRoom + (g.stack.map fun v => v.category).sum ≤ W9 → A.U.methodNamed? y = some mk → Pre A a →
    (∃ (v : Option Value) (B : Pt), Stand p l e R s m sargs below meth c B.U B.locs B.cells B.slots ∧ Post A a v B ∧
      Steps p.tables e below (doInvoke e (A.U.setTop g) [] mk a).1 (B.U.setTop { g with pc := g.pc + len, stack := v.toList ++ g.stack })) ∨
    (∃ (q : Addr) (B : Pt), Stand p l e R s m sargs below meth c B.U B.locs B.cells B.slots ∧ PostX A a q B ∧
      Steps p.tables e below (doInvoke e (A.U.setTop g) [] mk a).1 ((B.U.setTop g).pushFrame (.throwing q)))
section Payer
variable {l : Launch} {R : Room} {p : Program} {e : Env} {below : List Frame} {s : State} {sargs : Array Value} {y : MethodName} {len W9 : Nat}
theorem vx_back {ws : List Cond} {rm : Room} {Pc : Array Value → State → Prop} {Qc : Array Value → State → Outcome → State → Prop} {XC : String → State → State → Prop} {mc ms : Nat} {free : Addr → Prop} {bytes : ByteArray} {maxL : Nat} {ret : Option FieldType}
    (hM : vx_Met l y ws rm Pc Qc XC mc ms free) (hblind : FrameBlind Pc) (hrc : rm.cells = mc) (hrs : rm.slots = ms)
    (hframes : rm.frames + 1 ≤ R.frames) (hlocals : W9 + (maxL + 11) + rm.locals ≤ R.locals)
    (hws : ∀ w ∈ ws, ∀ a' U, s.WarmedH U.vm → w.before a' U = true) (hcode : Cond.code y bytes maxL ret ∈ ws) (hinit : ∀ a' U, s.WarmedH U.vm → (Cond.initialized y.cls).before a' U = true) :
    vx_Back l R p e below s sargs y len W9 (PreOf R mc ms Pc) (PostOf Qc mc ms free) (vx_Post XC mc ms free) := by
  intro m meth c A g ig mk a X hg hsize hdg hW hn hp
  have h1 : (headSpec ws rm).pre.before a A.U = true := atoms_intro fun w hw => hws w hw _ _ X.warmed
  have h2 : (Cond.code y bytes maxL ret).before a A.U = true := hws _ hcode _ _ X.warmed
  have h3 : (Cond.initialized y.cls).before a A.U = true := hinit _ _ X.warmed
  have h4 : A.cells + (headSpec ws rm).room.cells ≤ R.cells := by rw [show (headSpec ws rm).room.cells = mc from hrc]; exact hp.1
  have h5 : A.slots + (headSpec ws rm).room.slots ≤ R.slots := by rw [show (headSpec ws rm).room.slots = ms from hrs]; exact hp.2.1
  have hPc : Pc a (A.U.calling g mk a) := hblind _ _ _ _ hp.2.2
  obtain ⟨U, Ls, c0, s0⟩ := A
  dsimp only [Pt.U, Pt.locs, Pt.cells, Pt.slots] at h1 h2 h3 h4 h5 X hn hPc ⊢
  obtain ⟨methY, cY, hmY, hcY, -, hlY, -, -, -, -⟩ := Cond.code_spec hn h2
  obtain ⟨kY, hkY, -⟩ := className_of_methodNamed hn
  have hinitY : kY.init = .initialized := Cond.initialized_spec (findClass_of_methodNamed hn) hkY h3
  have h : At U g.method c below := by rw [hg]; exact X.here
  have hlocals9 : W9 + (maxL + 11) + (headSpec ws rm).room.locals ≤ R.locals := hlocals
  have happ : (headSpec ws rm).appliesLoose y e.platform (U.calling g mk a) = true :=
    Spec.appliesLoose_calling (g := g) h hdg hn hkY hinitY
      (X.room_calling (g := g) (R' := (headSpec ws rm).room) hsize hmY hcY hframes (by rw [hlY]; omega) h4 h5) h1
  obtain ⟨mid, hmid⟩ := h.above
  have hfr : (U.setTop g).frames = (.java g :: mid) ++ below := by rw [State.frames_setTop' g h.top, hmid]; rfl
  obtain ⟨o, s₂, hsteps, -, hend, hq⟩ := Steps.callFree hM p X.admits X.cas X.clock (acts := []) hfr happ hPc trivial
  have hq' : vx_Q Qc XC mc ms free a (U.calling g mk a) o s₂ := hq
  rw [State.frames_setTop' g h.top] at hend
  obtain ⟨g₀, hg0⟩ := Option.isSome_iff_exists.mp h.top
  obtain ⟨r, hr⟩ := State.topJava?_eq_some.mp hg0
  have hr' : (({ U with heap := s₂.heap, slotsUsed := s₂.slotsUsed } : State).setVm s₂.vm).frames = .java g₀ :: r := hr
  rcases hq' with ⟨hqc, L, hfe, hL⟩ | ⟨q, rfl, E, ce, L, hx, hce, hcv, hcl, hW₂, hsm, hL⟩
  · obtain ⟨⟨v, rfl⟩, hW₂, e2, q2, q3, q4, q5, q6⟩ := id hfe
    have e3 : s₂ = ({ (U.calling g mk a).setFrames s₂.frames with heap := s₂.heap, slotsUsed := s₂.slotsUsed } : State).setVm s₂.vm := by
      have : s₂ = ({ s₂ with vm := (U.calling g mk a).vm } : State).setVm s₂.vm := rfl
      rw [e2] at this
      exact this
    obtain ⟨c₂, i₂, len₂, hc₂, hd₂, hf₂⟩ := hend
    have hW' : U.WarmedH s₂.vm := hW₂
    have hcc : c₂ = c := by
      have h1 : s₂.code? g.method = U.code? g.method := by
        rw [State.code?_eq, State.code?_eq, hW'.alike.method?]
      exact Option.some.inj (hc₂.symm.trans (h1.trans h.code))
    subst hcc
    have hlen : len₂ = len := by rw [hdg] at hd₂; cases hd₂; rfl
    subst hlen
    have hs₂ : s₂ = (({ U with heap := s₂.heap, slotsUsed := s₂.slotsUsed } : State).setVm s₂.vm).setTop { g with pc := g.pc + len₂, stack := v.toList ++ g.stack } := by
      refine e3.trans ?_
      rw [hf₂, State.calling_eq h.top, State.setFrames_setFrames, State.setTop_of_frames _ hr', hr]
      rfl
    have hsame : U.sameButNew ({ U with heap := s₂.heap, slotsUsed := s₂.slotsUsed } : State) L mc ms := by
      refine ⟨?_, q2, q3, q4, q5, q6⟩
      obtain ⟨t, ht, -⟩ := State.frames_cons hr
      show ({ U with heap := s₂.heap, slotsUsed := s₂.slotsUsed } : State) = { U.setFrames U.frames with heap := s₂.heap, slotsUsed := s₂.slotsUsed }
      rw [State.setFrames_self ht]
    subst hg
    refine Or.inl ⟨v, ⟨(({ U with heap := s₂.heap, slotsUsed := s₂.slotsUsed } : State).setVm s₂.vm), Ls ++ L, c0 + mc, s0 + ms⟩,
      ⟨X.admits, X.cas, X.clock, X.frames, X.room, X.hears, X.method, X.code, (X.here.setHeapUsed s₂.heap s₂.slotsUsed).setVm hW'.alike, X.tail, State.WarmedH.trans X.warmed hW', X.limits, X.bytes, X.same.trans (hsame.setVm s.vm)⟩,
      ⟨g, mk, s₂, L, rfl, rfl, hqc, rfl, hL, rfl, rfl⟩, ?_⟩
    show Steps p.tables e below _ ((({ U with heap := s₂.heap, slotsUsed := s₂.slotsUsed } : State).setVm s₂.vm).setTop { g with pc := g.pc + len₂, stack := v.toList ++ g.stack })
    rw [← hs₂]
    exact hsteps
  · obtain ⟨e2, q2, q3, q4, q5, q6⟩ := id hsm
    have e3 : s₂ = ({ (U.calling g mk a).setFrames s₂.frames with heap := s₂.heap, slotsUsed := s₂.slotsUsed } : State).setVm s₂.vm := by
      have : s₂ = ({ s₂ with vm := (U.calling g mk a).vm } : State).setVm s₂.vm := rfl
      rw [e2] at this
      exact this
    have hf₂ : s₂.frames = .throwing q :: .java g :: U.frames.tail := hend
    have hW' : U.WarmedH s₂.vm := hW₂
    have hs₂ : s₂ = ((({ U with heap := s₂.heap, slotsUsed := s₂.slotsUsed } : State).setVm s₂.vm).setTop g).pushFrame (.throwing q) := by
      refine e3.trans ?_
      rw [hf₂, State.calling_eq h.top, State.setFrames_setFrames, State.pushFrame, State.frames_setTop _ hr', State.setTop_of_frames _ hr', State.setFrames_setFrames, hr]
      rfl
    have hsame : U.sameButNew ({ U with heap := s₂.heap, slotsUsed := s₂.slotsUsed } : State) L mc ms := by
      refine ⟨?_, q2, q3, q4, q5, q6⟩
      obtain ⟨t, ht, -⟩ := State.frames_cons hr
      show ({ U with heap := s₂.heap, slotsUsed := s₂.slotsUsed } : State) = { U.setFrames U.frames with heap := s₂.heap, slotsUsed := s₂.slotsUsed }
      rw [State.setFrames_self ht]
    subst hg
    refine Or.inr ⟨q, ⟨(({ U with heap := s₂.heap, slotsUsed := s₂.slotsUsed } : State).setVm s₂.vm), Ls ++ L, c0 + mc, s0 + ms⟩,
      ⟨X.admits, X.cas, X.clock, X.frames, X.room, X.hears, X.method, X.code, (X.here.setHeapUsed s₂.heap s₂.slotsUsed).setVm hW'.alike, X.tail, State.WarmedH.trans X.warmed hW', X.limits, X.bytes, X.same.trans (hsame.setVm s.vm)⟩,
      ⟨g, mk, s₂, L, E, ce, rfl, rfl, hx, hce, hcv, hcl, rfl, hL, rfl, rfl⟩, ?_⟩
    show Steps p.tables e below _ (((({ U with heap := s₂.heap, slotsUsed := s₂.slotsUsed } : State).setVm s₂.vm).setTop g).pushFrame (.throwing q))
    rw [← hs₂]
    exact hsteps
end Payer
section Calls
variable {p : Program} {l : Launch} {e : Env} {R : Room} {s : State} {m : MethodId} {args : Array Value} {below : List Frame} {meth : Method} {c : Code} {T : State} {locs : List Loc} {cells slots : Nat}
theorem vx_callV (X : Stand p l e R s m args below meth c T locs cells slots) (hexec : p.tables.exec = Jvm.exec) {own C : String} {index : Nat} {y : MethodName} {bytes : ByteArray} {maxL : Nat} {ret : Option FieldType}
    (hown : s.vm.findClass own = some m.cls) (hlink : (Cond.methodLink own index y).before args s = true) (hinst : (Cond.instanceMethod y).before args s = true) (hsel : (Cond.selects C y y).before args s = true)
    (hcode : (Cond.code y bytes maxL ret).before args s = true) (hy : y.cls ≠ "java/lang/invoke/MethodHandle" ∧ y.cls ≠ "java/lang/invoke/VarHandle")
    {W9 : Nat} {Pre : Pt → Array Value → Prop} {Post : Pt → Array Value → Option Value → Pt → Prop} {PostX : Pt → Array Value → Addr → Pt → Prop} (hK : vx_Back l R p e below s args y 3 W9 Pre Post PostX)
    {b : Addr} {cellB : Cell} (hcell : T.heap[b]? = some cellB) (hobj : cellB.vm.isStatics = false) (hcls : s.vm.findClass C = some cellB.cls)
    {g : JFrame} (hg : g.method = m) (hsize : g.locals.size = c.maxLocals) {argsL rest : List Value} (hlen : ∀ sig, parseMethodDescriptor y.desc = some sig → argsL.length = sig.parameters.length)
    (hstack : g.stack = argsL.reverse ++ .ref b :: rest) (hW : 2 * g.monitorRoom + (rest.map fun v => v.category).sum ≤ W9) (hdg : decode c.code g.pc = .ok (.invokevirtual index, 3))
    (hpre : ∀ vm₁, s.WarmedH vm₁ → Pre ⟨T.setVm vm₁, locs, cells, slots⟩ (Value.ref b :: argsL).toArray) :
    (∃ (v : Option Value) (vm₁ : Vm) (B : Pt), s.WarmedH vm₁ ∧ Stand p l e R s m args below meth c B.U B.locs B.cells B.slots ∧ Post ⟨T.setVm vm₁, locs, cells, slots⟩ (Value.ref b :: argsL).toArray v B ∧
      ∀ target, Steps p.tables e below (B.U.setTop { g with pc := g.pc + 3, stack := v.toList ++ rest }) target → Steps p.tables e below (T.setTop g) target) ∨
    (∃ (q : Addr) (vm₁ : Vm) (B : Pt), s.WarmedH vm₁ ∧ Stand p l e R s m args below meth c B.U B.locs B.cells B.slots ∧ PostX ⟨T.setVm vm₁, locs, cells, slots⟩ (Value.ref b :: argsL).toArray q B ∧
      Steps p.tables e below (T.setTop g) ((B.U.setTop { g with stack := rest }).pushFrame (.throwing q))) := by
  obtain ⟨mk, methM, hnamed, hmethM, hstM, habM⟩ := Cond.instanceMethod_spec hinst
  obtain ⟨methM', cM, hmethM', -, -, -, -, -, -, hsigM⟩ := Cond.code_spec hnamed hcode
  cases hmethM.symm.trans hmethM'
  obtain ⟨c2, r2, m2, q1, q2, q3, q4, kP, hkP, hkPi⟩ := Cond.selects_spec hsel
  cases hcls.symm.trans q1
  cases (State.methodFound?_of_named hnamed hy).symm.trans q2
  cases hnamed.symm.trans q3
  have hselP : selectMethod e.platform s.vm cellB.cls mk = .method mk := by rw [Launch.admits_selectMethod X.admits]; exact q4
  obtain ⟨vm₁, X₁, hstep₁⟩ := X.invokevirtual hexec hown hlink hnamed hmethM hstM hkP hkPi hy (a := b) (cell := cellB) hcell
    (fun z h => by rw [h] at hobj; cases hobj) hselP hmethM habM hkP hkPi (g := g) hg (argsL := argsL) (rest := rest) (hlen _ hsigM) hstack hdg
  rcases hK m meth c ⟨T.setVm vm₁, locs, cells, slots⟩ { g with stack := rest } (.invokevirtual index) mk (Value.ref b :: argsL).toArray X₁ hg hsize hdg hW (X₁.named hnamed) (hpre vm₁ X₁.warmed) with ⟨v, B, X', hpost, hsteps⟩ | ⟨q, B, X', hpost, hsteps⟩
  · exact Or.inl ⟨v, vm₁, B, X₁.warmed, X', hpost, fun target h => hstep₁ _ fun acts => by rw [doInvoke_state]; exact hsteps.trans h⟩
  · exact Or.inr ⟨q, vm₁, B, X₁.warmed, X', hpost, hstep₁ _ fun acts => by rw [doInvoke_state]; exact hsteps⟩
theorem vx_callS (X : Stand p l e R s m args below meth c T locs cells slots) (hexec : p.tables.exec = Jvm.exec) {own : String} {index : Nat} {y : MethodName} {bytes : ByteArray} {maxL : Nat} {ret : Option FieldType}
    (hown : s.vm.findClass own = some m.cls) (hlink : (Cond.methodLink own index y).before args s = true) (hstat : (Cond.static y).before args s = true) (hinit : (Cond.initialized y.cls).before args s = true)
    (hcode : (Cond.code y bytes maxL ret).before args s = true) (hy : y.cls ≠ "java/lang/invoke/MethodHandle" ∧ y.cls ≠ "java/lang/invoke/VarHandle")
    {W9 : Nat} {Pre : Pt → Array Value → Prop} {Post : Pt → Array Value → Option Value → Pt → Prop} {PostX : Pt → Array Value → Addr → Pt → Prop} (hK : vx_Back l R p e below s args y 3 W9 Pre Post PostX)
    {g : JFrame} (hg : g.method = m) (hsize : g.locals.size = c.maxLocals) {argsL rest : List Value} (hlen : ∀ sig, parseMethodDescriptor y.desc = some sig → argsL.length = sig.parameters.length)
    (hstack : g.stack = argsL.reverse ++ rest) (hW : 2 * g.monitorRoom + (rest.map fun v => v.category).sum ≤ W9) (hdg : decode c.code g.pc = .ok (.invokestatic index, 3))
    (hpre : ∀ vm₁, s.WarmedH vm₁ → Pre ⟨T.setVm vm₁, locs, cells, slots⟩ argsL.toArray) :
    (∃ (v : Option Value) (vm₁ : Vm) (B : Pt), s.WarmedH vm₁ ∧ Stand p l e R s m args below meth c B.U B.locs B.cells B.slots ∧ Post ⟨T.setVm vm₁, locs, cells, slots⟩ argsL.toArray v B ∧
      ∀ target, Steps p.tables e below (B.U.setTop { g with pc := g.pc + 3, stack := v.toList ++ rest }) target → Steps p.tables e below (T.setTop g) target) ∨
    (∃ (q : Addr) (vm₁ : Vm) (B : Pt), s.WarmedH vm₁ ∧ Stand p l e R s m args below meth c B.U B.locs B.cells B.slots ∧ PostX ⟨T.setVm vm₁, locs, cells, slots⟩ argsL.toArray q B ∧
      Steps p.tables e below (T.setTop g) ((B.U.setTop { g with stack := rest }).pushFrame (.throwing q))) := by
  obtain ⟨mk, hnamed⟩ := Cond.code_named hcode
  obtain ⟨methM, cM, hmethM, -, -, -, -, -, -, hsigM⟩ := Cond.code_spec hnamed hcode
  have hstatic : methM.isStatic = true := Cond.static_spec hnamed hmethM hstat
  obtain ⟨kP, hkP, -⟩ := className_of_methodNamed hnamed
  have hinitP : kP.init = .initialized := Cond.initialized_spec (findClass_of_methodNamed hnamed) hkP hinit
  obtain ⟨vm₁, X₁, hstep₁⟩ := X.invokestatic hexec hown hlink hnamed hmethM hstatic hkP hinitP hy (g := g) hg (argsL := argsL) (rest := rest) (hlen _ hsigM) hstack hdg
  rcases hK m meth c ⟨T.setVm vm₁, locs, cells, slots⟩ { g with stack := rest } (.invokestatic index) mk argsL.toArray X₁ hg hsize hdg hW (X₁.named hnamed) (hpre vm₁ X₁.warmed) with ⟨v, B, X', hpost, hsteps⟩ | ⟨q, B, X', hpost, hsteps⟩
  · exact Or.inl ⟨v, vm₁, B, X₁.warmed, X', hpost, fun target h => hstep₁ _ fun acts => by rw [doInvoke_state]; exact hsteps.trans h⟩
  · exact Or.inr ⟨q, vm₁, B, X₁.warmed, X', hpost, hstep₁ _ fun acts => by rw [doInvoke_state]; exact hsteps⟩
end Calls
theorem vx_cls {s : State} {T : State} {vm₁ : Vm} {E : String} {k : ClassId} (hW : s.WarmedH vm₁) (h : (T.setVm vm₁).vm.findClass E = some k) : s.vm.findClass E = some k := by
  have h1 : vm₁.findClass E = some k := h
  rw [hW.alike.findClass] at h1
  exact h1
/-- the method's frame g, with q thrown over it -/
def vx_W (p : Program) (l : Launch) (e : Env) (R : Room) (s : State) (m : MethodId) (args : Array Value) (below : List Frame) (meth : Method) (c : Code) (H : Heap) (locs : List Loc) (cells slots : Nat) (Q : State → Prop) (g : JFrame) (q : Addr) : Prop :=
  ∀ T : State, T.heap = H → Stand p l e R s m args below meth c T locs cells slots → ∃ t, Steps p.tables e below ((T.setTop g).pushFrame (.throwing q)) t ∧ Q t
def vx_Run (p : Program) (l : Launch) (e : Env) (R : Room) (s : State) (m : MethodId) (args : Array Value) (below : List Frame) (meth : Method) (c : Code) (H : Heap) (locs : List Loc) (cells slots mc ms : Nat) (g : JFrame) (rest : List Value) (Qa : State → Outcome → State → Prop) (XC : String → State → State → Prop) (free : Addr → Prop) : Prop :=
  ∀ T : State, T.heap = H → Stand p l e R s m args below meth c T locs cells slots →
    (∃ (v : Option Value) (st₀ t T' : State) (L : List Loc), st₀.heap = H ∧ Stand p l e R s m args below meth c T' (locs ++ L) (cells + mc) (slots + ms) ∧ (∀ q ∈ L, free q.base) ∧ T'.heap = t.heap ∧ T'.vm = t.vm ∧ Qa st₀ (.returned v) t ∧
      Goes p e below T g T' { g with pc := g.pc + 3, stack := v.toList ++ rest }) ∨
    (∃ (q : Addr) (st₀ t T' : State) (L : List Loc) (E : String) (ce : Cell), st₀.heap = H ∧ Stand p l e R s m args below meth c T' (locs ++ L) (cells + mc) (slots + ms) ∧ (∀ z ∈ L, free z.base) ∧ T'.heap = t.heap ∧ T'.vm = t.vm ∧ XC E st₀ t ∧ t.heap[q]? = some ce ∧ ce.vm = .none ∧ s.vm.findClass E = some ce.cls ∧
      Steps p.tables e below (T.setTop g) ((T'.setTop { g with stack := rest }).pushFrame (.throwing q)))
def vx_X {S : Type} (px : S → Prop) (B : String → S → State → Prop) (A : Nat → Prop) : String → State → State → Prop := fun E st t => ∃ u : S, px u ∧ B E u t ∧ va_F A st t
section Runs
variable {p : Program} {l : Launch} {e : Env} {R : Room} {s : State} {m : MethodId} {args : Array Value} {below : List Frame} {meth : Method} {c : Code} {H : Heap} {locs : List Loc} {cells slots : Nat}
variable {y : MethodName} {bytes cc : ByteArray} {maxL nL mc ms n index : Nat} {ret : Option FieldType} {ws : List Cond} {rm : Room} {Pc : Array Value → State → Prop} {Qc : Array Value → State → Outcome → State → Prop} {XC : String → State → State → Prop} {free : Addr → Prop} {Ts : List Cond} {own C : String} {b : Addr} {As rest : List Value} {g : JFrame}
theorem vx_callBack (cb : CallB R s args own index y bytes maxL ret ws rm mc ms n) (hM : vx_Met l y ws rm Pc Qc XC mc ms free) (hbl : FrameBlind Pc) : vx_Back l R p e below s args y 3 8 (PreOf R mc ms Pc) (PostOf Qc mc ms free) (vx_Post XC mc ms free) := by
  obtain ⟨hrc, hrs, hfr, hlo, hws, hcw, -, hini, -⟩ := cb
  exact vx_back (bytes := bytes) (maxL := maxL) (ret := ret) hM hbl hrc hrs hfr hlo hws hcw (fun a' U hW => word_at hW (Or.inl (by first | rfl | simp [Cond.onTables, Cond.keeps, Cond.steady])) hini)
theorem vx_runV (S : CallFix p m c cc nL s args Ts own) (hM : vx_Met l y ws rm Pc Qc XC mc ms free) (cw : CallW R s args own C index y bytes maxL ret ws rm mc ms n) (hp : PreV s H C b Pc As)
    (hg : g.method = m) (hn : As.length = n) (hsize : g.locals.size = nL) (hstack : g.stack = As.reverse ++ .ref b :: rest) (hW : 2 * g.monitorRoom + (rest.map fun v => v.category).sum ≤ 8) (hdg : decode cc g.pc = .ok (.invokevirtual index, 3)) (hf : cells + mc ≤ R.cells ∧ slots + ms ≤ R.slots) :
    vx_Run p l e R s m args below meth c H locs cells slots mc ms g rest (Qc (Value.ref b :: As).toArray) XC free := by
  have hK : vx_Back l R p e below s args y 3 8 (PreOf R mc ms Pc) (PostOf Qc mc ms free) (vx_Post XC mc ms free) := vx_callBack cw.1 hM hp.1
  obtain ⟨⟨-, -, -, -, -, -, hcode, -, hy, hlen, hl⟩, hin, hse⟩ := cw
  obtain ⟨hx, hb, hml, ho, -⟩ := S
  obtain ⟨-, ⟨cellB, hcB, hoB, hclB⟩, hPc⟩ := hp
  intro T hT X
  rcases vx_callV X hx (C := C) (bytes := bytes) (maxL := maxL) (ret := ret) ho hl hin hse hcode hy hK (by rw [hT]; exact hcB) hoB hclB hg (hsize.trans hml.symm) (argsL := As) (rest := rest) (fun sig h => hn.trans (hlen sig h)) hstack hW (by rw [hb]; exact hdg)
    (fun vm₁ hW₁ => ⟨hf.1, hf.2, hPc (T.setVm vm₁) hT hW₁⟩) with ⟨v, vm₁, ⟨U', l2, c2, s2⟩, hW₁, X', ⟨g', mk, t, L, e1, e2, hq, h1, hL, h2, h3⟩, st⟩ | ⟨q, vm₁, ⟨U', l2, c2, s2⟩, hW₁, X', ⟨g', mk, t, L, E, ce, e1, e2, hq, hce, hcv, hcl, h1, hL, h2, h3⟩, st⟩
  · dsimp only [Pt.U, Pt.locs, Pt.cells, Pt.slots] at X' e1 e2 h1 h2 h3 st
    subst h1; subst h2; subst h3
    exact Or.inl ⟨v, (T.setVm vm₁).calling g' mk (Value.ref b :: As).toArray, t, U', L, hT, X', hL, e1, e2, hq, st⟩
  · dsimp only [Pt.U, Pt.locs, Pt.cells, Pt.slots] at X' e1 e2 h1 h2 h3 st hcl
    subst h1; subst h2; subst h3
    exact Or.inr ⟨q, (T.setVm vm₁).calling g' mk (Value.ref b :: As).toArray, t, U', L, E, ce, hT, X', hL, e1, e2, hq, hce, hcv, vx_cls hW₁ hcl, st⟩
theorem vx_runS (S : CallFix p m c cc nL s args Ts own) (hM : vx_Met l y ws rm Pc Qc XC mc ms free) (cw : CallB R s args own index y bytes maxL ret ws rm mc ms n ∧ (Cond.static y).before args s = true) (hp : PreS s H Pc As)
    (hg : g.method = m) (hn : As.length = n) (hsize : g.locals.size = nL) (hstack : g.stack = As.reverse ++ rest) (hW : 2 * g.monitorRoom + (rest.map fun v => v.category).sum ≤ 8) (hdg : decode cc g.pc = .ok (.invokestatic index, 3)) (hf : cells + mc ≤ R.cells ∧ slots + ms ≤ R.slots) :
    vx_Run p l e R s m args below meth c H locs cells slots mc ms g rest (Qc As.toArray) XC free := by
  have hK : vx_Back l R p e below s args y 3 8 (PreOf R mc ms Pc) (PostOf Qc mc ms free) (vx_Post XC mc ms free) := vx_callBack cw.1 hM hp.1
  obtain ⟨⟨-, -, -, -, -, -, hcode, hini, hy, hlen, hl⟩, hstt⟩ := cw
  obtain ⟨hx, hb, hml, ho, -⟩ := S
  intro T hT X
  rcases vx_callS X hx (bytes := bytes) (maxL := maxL) (ret := ret) ho hl hstt hini hcode hy hK hg (hsize.trans hml.symm) (argsL := As) (rest := rest) (fun sig h => hn.trans (hlen sig h)) hstack hW (by rw [hb]; exact hdg)
    (fun vm₁ hW₁ => ⟨hf.1, hf.2, hp.2 (T.setVm vm₁) hT hW₁⟩) with ⟨v, vm₁, ⟨U', l2, c2, s2⟩, hW₁, X', ⟨g', mk, t, L, e1, e2, hq, h1, hL, h2, h3⟩, st⟩ | ⟨q, vm₁, ⟨U', l2, c2, s2⟩, hW₁, X', ⟨g', mk, t, L, E, ce, e1, e2, hq, hce, hcv, hcl, h1, hL, h2, h3⟩, st⟩
  · dsimp only [Pt.U, Pt.locs, Pt.cells, Pt.slots] at X' e1 e2 h1 h2 h3 st
    subst h1; subst h2; subst h3
    exact Or.inl ⟨v, (T.setVm vm₁).calling g' mk As.toArray, t, U', L, hT, X', hL, e1, e2, hq, st⟩
  · dsimp only [Pt.U, Pt.locs, Pt.cells, Pt.slots] at X' e1 e2 h1 h2 h3 st hcl
    subst h1; subst h2; subst h3
    exact Or.inr ⟨q, (T.setVm vm₁).calling g' mk As.toArray, t, U', L, E, ce, hT, X', hL, e1, e2, hq, hce, hcv, vx_cls hW₁ hcl, st⟩
end Runs
section Rows
variable {p : Program} {l : Launch} {e : Env} {R : Room} {s : State} {m : MethodId} {args : Array Value} {below : List Frame} {meth : Method} {c : Code} {H : Heap} {locs : List Loc} {cells slots : Nat} {Q : State → Prop}
variable {mc ms : Nat} {free : Addr → Prop} {A0 A1 : Nat → Prop} {H0 : Heap} {a : Array Value} {pc : Nat} {ls : Array Slot} {st0 rest : List Value}
theorem vx_keep {st₀ t T' : State} {L : List Loc} (h0 : st₀.heap = H) (e1 : T'.heap = t.heap) (hS : va_S A0 H0 H locs) (hA : ∀ q, q < H.size → A1 q → A0 q) (hf : ∀ q, free q → A0 q) (hL : ∀ q ∈ L, free q.base) (hF : va_F A1 st₀ t) :
    H.size ≤ T'.heap.size ∧ (∀ q : Nat, q < H.size → ¬ A1 q → T'.heap[q]? = H[q]?) ∧ va_S A0 H0 T'.heap (locs ++ L) := by
  obtain ⟨hz, hk⟩ := hF
  rw [h0] at hz hk
  exact ⟨by rw [e1]; exact hz, fun q h1 h2 => by rw [e1]; exact hk q h1 h2,
    ⟨Nat.le_trans hS.1 (by rw [e1]; exact hz), fun q h1 h2 => by rw [e1, hk q (Nat.lt_of_lt_of_le h1 hS.1) (fun z => h2 (hA q (Nat.lt_of_lt_of_le h1 hS.1) z))]; exact hS.2.1 q h1 h2, fun q hq => by
      rcases List.mem_append.mp hq with h | h
      · exact hS.2.2 q h
      · exact hf _ (hL q h)⟩⟩
theorem vx_calli {S SX : Type} {post : Int32 → S → Prop} {px : SX → Prop} {B : S → State → Prop} {BX : String → SX → State → Prop} {AX : Nat → Prop} (hr : vx_Run p l e R s m args below meth c H locs cells slots mc ms (F0 m pc ls st0) rest (va_Qi post B A1 a) (vx_X px BX AX) free) (hS : va_S A0 H0 H locs) (hA : ∀ q, q < H.size → A1 q → A0 q) (hf : ∀ q, free q → A0 q) (hAX : ∀ q, q < H.size → AX q → A0 q)
    (kx : ∀ (E : String) (ce : Cell) (q9 : Addr) (u : SX) (t : State) (H1 : Heap) (locs1 : List Loc), t.heap = H1 → s.vm.Alike t.vm → px u → BX E u t → H.size ≤ H1.size → (∀ q : Nat, q < H.size → ¬ AX q → H1[q]? = H[q]?) → va_S A0 H0 H1 locs1 → H1[q9]? = some ce → ce.vm = .none → s.vm.findClass E = some ce.cls → vx_W p l e R s m args below meth c H1 locs1 (cells + mc) (slots + ms) Q (F0 m pc ls rest) q9)
    (kk : ∀ (r : Int32) (u : S) (t : State) (H1 : Heap) (locs1 : List Loc), t.heap = H1 → s.vm.Alike t.vm → post r u → B u t → H.size ≤ H1.size → (∀ q : Nat, q < H.size → ¬ A1 q → H1[q]? = H[q]?) → va_S A0 H0 H1 locs1 → W p l e R s m args below meth c H1 locs1 (cells + mc) (slots + ms) Q (F0 m (pc + 3) ls (.int r :: rest))) : W p l e R s m args below meth c H locs cells slots Q (F0 m pc ls st0) := by
  intro T hT X
  rcases hr T hT X with ⟨v, st₀, t, T', L, h0, X', hL, e1, e2, ⟨⟨r, u, hv, hp, hb⟩, hF⟩, st⟩ | ⟨q, st₀, t, T', L, E, ce, h0, X', hL, e1, e2, ⟨u, hp, hb, hF⟩, hce, hcv, hcl, st⟩
  · cases hv
    obtain ⟨k1, k2, k3⟩ := vx_keep h0 e1 hS hA hf hL hF
    obtain ⟨t2, a1, b1⟩ := kk r u t T'.heap (locs ++ L) e1.symm (by rw [← e2]; exact X'.warmed.alike) hp hb k1 k2 k3 T' rfl X'
    exact ⟨t2, st t2 a1, b1⟩
  · obtain ⟨k1, k2, k3⟩ := vx_keep h0 e1 hS hAX hf hL hF
    obtain ⟨t2, a1, b1⟩ := kx E ce q u t T'.heap (locs ++ L) e1.symm (by rw [← e2]; exact X'.warmed.alike) hp hb k1 k2 k3 (by rw [e1]; exact hce) hcv hcl T' rfl X'
    exact ⟨t2, st.trans a1, b1⟩
theorem vx_calll {S SX : Type} {post : Int64 → S → Prop} {px : SX → Prop} {B : S → State → Prop} {BX : String → SX → State → Prop} {AX : Nat → Prop} (hr : vx_Run p l e R s m args below meth c H locs cells slots mc ms (F0 m pc ls st0) rest (va_Ql post B A1 a) (vx_X px BX AX) free) (hS : va_S A0 H0 H locs) (hA : ∀ q, q < H.size → A1 q → A0 q) (hf : ∀ q, free q → A0 q) (hAX : ∀ q, q < H.size → AX q → A0 q)
    (kx : ∀ (E : String) (ce : Cell) (q9 : Addr) (u : SX) (t : State) (H1 : Heap) (locs1 : List Loc), t.heap = H1 → s.vm.Alike t.vm → px u → BX E u t → H.size ≤ H1.size → (∀ q : Nat, q < H.size → ¬ AX q → H1[q]? = H[q]?) → va_S A0 H0 H1 locs1 → H1[q9]? = some ce → ce.vm = .none → s.vm.findClass E = some ce.cls → vx_W p l e R s m args below meth c H1 locs1 (cells + mc) (slots + ms) Q (F0 m pc ls rest) q9)
    (kk : ∀ (r : Int64) (u : S) (t : State) (H1 : Heap) (locs1 : List Loc), t.heap = H1 → s.vm.Alike t.vm → post r u → B u t → H.size ≤ H1.size → (∀ q : Nat, q < H.size → ¬ A1 q → H1[q]? = H[q]?) → va_S A0 H0 H1 locs1 → W p l e R s m args below meth c H1 locs1 (cells + mc) (slots + ms) Q (F0 m (pc + 3) ls (.long r :: rest))) : W p l e R s m args below meth c H locs cells slots Q (F0 m pc ls st0) := by
  intro T hT X
  rcases hr T hT X with ⟨v, st₀, t, T', L, h0, X', hL, e1, e2, ⟨⟨r, u, hv, hp, hb⟩, hF⟩, st⟩ | ⟨q, st₀, t, T', L, E, ce, h0, X', hL, e1, e2, ⟨u, hp, hb, hF⟩, hce, hcv, hcl, st⟩
  · cases hv
    obtain ⟨k1, k2, k3⟩ := vx_keep h0 e1 hS hA hf hL hF
    obtain ⟨t2, a1, b1⟩ := kk r u t T'.heap (locs ++ L) e1.symm (by rw [← e2]; exact X'.warmed.alike) hp hb k1 k2 k3 T' rfl X'
    exact ⟨t2, st t2 a1, b1⟩
  · obtain ⟨k1, k2, k3⟩ := vx_keep h0 e1 hS hAX hf hL hF
    obtain ⟨t2, a1, b1⟩ := kx E ce q u t T'.heap (locs ++ L) e1.symm (by rw [← e2]; exact X'.warmed.alike) hp hb k1 k2 k3 (by rw [e1]; exact hce) hcv hcl T' rfl X'
    exact ⟨t2, st.trans a1, b1⟩
theorem vx_callf {S SX : Type} {post : UInt32 → S → Prop} {px : SX → Prop} {B : S → State → Prop} {BX : String → SX → State → Prop} {AX : Nat → Prop} (hr : vx_Run p l e R s m args below meth c H locs cells slots mc ms (F0 m pc ls st0) rest (va_Qf post B A1 a) (vx_X px BX AX) free) (hS : va_S A0 H0 H locs) (hA : ∀ q, q < H.size → A1 q → A0 q) (hf : ∀ q, free q → A0 q) (hAX : ∀ q, q < H.size → AX q → A0 q)
    (kx : ∀ (E : String) (ce : Cell) (q9 : Addr) (u : SX) (t : State) (H1 : Heap) (locs1 : List Loc), t.heap = H1 → s.vm.Alike t.vm → px u → BX E u t → H.size ≤ H1.size → (∀ q : Nat, q < H.size → ¬ AX q → H1[q]? = H[q]?) → va_S A0 H0 H1 locs1 → H1[q9]? = some ce → ce.vm = .none → s.vm.findClass E = some ce.cls → vx_W p l e R s m args below meth c H1 locs1 (cells + mc) (slots + ms) Q (F0 m pc ls rest) q9)
    (kk : ∀ (r : UInt32) (u : S) (t : State) (H1 : Heap) (locs1 : List Loc), t.heap = H1 → s.vm.Alike t.vm → post r u → B u t → H.size ≤ H1.size → (∀ q : Nat, q < H.size → ¬ A1 q → H1[q]? = H[q]?) → va_S A0 H0 H1 locs1 → W p l e R s m args below meth c H1 locs1 (cells + mc) (slots + ms) Q (F0 m (pc + 3) ls (.float r :: rest))) : W p l e R s m args below meth c H locs cells slots Q (F0 m pc ls st0) := by
  intro T hT X
  rcases hr T hT X with ⟨v, st₀, t, T', L, h0, X', hL, e1, e2, ⟨⟨r, u, hv, hp, hb⟩, hF⟩, st⟩ | ⟨q, st₀, t, T', L, E, ce, h0, X', hL, e1, e2, ⟨u, hp, hb, hF⟩, hce, hcv, hcl, st⟩
  · cases hv
    obtain ⟨k1, k2, k3⟩ := vx_keep h0 e1 hS hA hf hL hF
    obtain ⟨t2, a1, b1⟩ := kk r u t T'.heap (locs ++ L) e1.symm (by rw [← e2]; exact X'.warmed.alike) hp hb k1 k2 k3 T' rfl X'
    exact ⟨t2, st t2 a1, b1⟩
  · obtain ⟨k1, k2, k3⟩ := vx_keep h0 e1 hS hAX hf hL hF
    obtain ⟨t2, a1, b1⟩ := kx E ce q u t T'.heap (locs ++ L) e1.symm (by rw [← e2]; exact X'.warmed.alike) hp hb k1 k2 k3 (by rw [e1]; exact hce) hcv hcl T' rfl X'
    exact ⟨t2, st.trans a1, b1⟩
theorem vx_calld {S SX : Type} {post : UInt64 → S → Prop} {px : SX → Prop} {B : S → State → Prop} {BX : String → SX → State → Prop} {AX : Nat → Prop} (hr : vx_Run p l e R s m args below meth c H locs cells slots mc ms (F0 m pc ls st0) rest (va_Qd post B A1 a) (vx_X px BX AX) free) (hS : va_S A0 H0 H locs) (hA : ∀ q, q < H.size → A1 q → A0 q) (hf : ∀ q, free q → A0 q) (hAX : ∀ q, q < H.size → AX q → A0 q)
    (kx : ∀ (E : String) (ce : Cell) (q9 : Addr) (u : SX) (t : State) (H1 : Heap) (locs1 : List Loc), t.heap = H1 → s.vm.Alike t.vm → px u → BX E u t → H.size ≤ H1.size → (∀ q : Nat, q < H.size → ¬ AX q → H1[q]? = H[q]?) → va_S A0 H0 H1 locs1 → H1[q9]? = some ce → ce.vm = .none → s.vm.findClass E = some ce.cls → vx_W p l e R s m args below meth c H1 locs1 (cells + mc) (slots + ms) Q (F0 m pc ls rest) q9)
    (kk : ∀ (r : UInt64) (u : S) (t : State) (H1 : Heap) (locs1 : List Loc), t.heap = H1 → s.vm.Alike t.vm → post r u → B u t → H.size ≤ H1.size → (∀ q : Nat, q < H.size → ¬ A1 q → H1[q]? = H[q]?) → va_S A0 H0 H1 locs1 → W p l e R s m args below meth c H1 locs1 (cells + mc) (slots + ms) Q (F0 m (pc + 3) ls (.double r :: rest))) : W p l e R s m args below meth c H locs cells slots Q (F0 m pc ls st0) := by
  intro T hT X
  rcases hr T hT X with ⟨v, st₀, t, T', L, h0, X', hL, e1, e2, ⟨⟨r, u, hv, hp, hb⟩, hF⟩, st⟩ | ⟨q, st₀, t, T', L, E, ce, h0, X', hL, e1, e2, ⟨u, hp, hb, hF⟩, hce, hcv, hcl, st⟩
  · cases hv
    obtain ⟨k1, k2, k3⟩ := vx_keep h0 e1 hS hA hf hL hF
    obtain ⟨t2, a1, b1⟩ := kk r u t T'.heap (locs ++ L) e1.symm (by rw [← e2]; exact X'.warmed.alike) hp hb k1 k2 k3 T' rfl X'
    exact ⟨t2, st t2 a1, b1⟩
  · obtain ⟨k1, k2, k3⟩ := vx_keep h0 e1 hS hAX hf hL hF
    obtain ⟨t2, a1, b1⟩ := kx E ce q u t T'.heap (locs ++ L) e1.symm (by rw [← e2]; exact X'.warmed.alike) hp hb k1 k2 k3 (by rw [e1]; exact hce) hcv hcl T' rfl X'
    exact ⟨t2, st.trans a1, b1⟩
theorem vx_callv {S SX : Type} {post : S → Prop} {px : SX → Prop} {B : S → State → Prop} {BX : String → SX → State → Prop} {AX : Nat → Prop} (hr : vx_Run p l e R s m args below meth c H locs cells slots mc ms (F0 m pc ls st0) rest (va_Qv post B A1 a) (vx_X px BX AX) free) (hS : va_S A0 H0 H locs) (hA : ∀ q, q < H.size → A1 q → A0 q) (hf : ∀ q, free q → A0 q) (hAX : ∀ q, q < H.size → AX q → A0 q)
    (kx : ∀ (E : String) (ce : Cell) (q9 : Addr) (u : SX) (t : State) (H1 : Heap) (locs1 : List Loc), t.heap = H1 → s.vm.Alike t.vm → px u → BX E u t → H.size ≤ H1.size → (∀ q : Nat, q < H.size → ¬ AX q → H1[q]? = H[q]?) → va_S A0 H0 H1 locs1 → H1[q9]? = some ce → ce.vm = .none → s.vm.findClass E = some ce.cls → vx_W p l e R s m args below meth c H1 locs1 (cells + mc) (slots + ms) Q (F0 m pc ls rest) q9)
    (kk : ∀ (u : S) (t : State) (H1 : Heap) (locs1 : List Loc), t.heap = H1 → s.vm.Alike t.vm → post u → B u t → H.size ≤ H1.size → (∀ q : Nat, q < H.size → ¬ A1 q → H1[q]? = H[q]?) → va_S A0 H0 H1 locs1 → W p l e R s m args below meth c H1 locs1 (cells + mc) (slots + ms) Q (F0 m (pc + 3) ls (rest))) : W p l e R s m args below meth c H locs cells slots Q (F0 m pc ls st0) := by
  intro T hT X
  rcases hr T hT X with ⟨v, st₀, t, T', L, h0, X', hL, e1, e2, ⟨⟨u, hv, hp, hb⟩, hF⟩, st⟩ | ⟨q, st₀, t, T', L, E, ce, h0, X', hL, e1, e2, ⟨u, hp, hb, hF⟩, hce, hcv, hcl, st⟩
  · cases hv
    obtain ⟨k1, k2, k3⟩ := vx_keep h0 e1 hS hA hf hL hF
    obtain ⟨t2, a1, b1⟩ := kk u t T'.heap (locs ++ L) e1.symm (by rw [← e2]; exact X'.warmed.alike) hp hb k1 k2 k3 T' rfl X'
    exact ⟨t2, st t2 a1, b1⟩
  · obtain ⟨k1, k2, k3⟩ := vx_keep h0 e1 hS hAX hf hL hF
    obtain ⟨t2, a1, b1⟩ := kx E ce q u t T'.heap (locs ++ L) e1.symm (by rw [← e2]; exact X'.warmed.alike) hp hb k1 k2 k3 (by rw [e1]; exact hce) hcv hcl T' rfl X'
    exact ⟨t2, st.trans a1, b1⟩
/-- caught by the row x of this method's table; the rows ahead don't take it -/
theorem vx_catch {own name : String} {E : String} {ce : Cell} {q : Addr} (hown : s.vm.findClass own = some m.cls) (pre : List ExceptionTableEntry) (x : ExceptionTableEntry) (suf : List ExceptionTableEntry) (hsplit : c.exceptionTable.toList = pre ++ x :: suf)
    (hpass : ∀ z ∈ pre, covers z pc = false ∨ (z.catchType ≠ 0 ∧ ∃ nm : String, (Cond.classLink own z.catchType nm).before args s = true ∧ va_Nc E nm s)) (hx : covers x pc = true) (h0 : x.catchType ≠ 0)
    (hlink : (Cond.classLink own x.catchType name).before args s = true) (hcast : (Cond.castable E name).before args s = true) (hcell : H[q]? = some ce) (hv : ce.vm = .none) (hcl : s.vm.findClass E = some ce.cls)
    (kk : W p l e R s m args below meth c H locs cells slots Q (F0 m x.handlerPc ls [.ref q])) : vx_W p l e R s m args below meth c H locs cells slots Q (F0 m pc ls rest) q := by
  intro T hT X
  have hpl : e.platform.magicAccessors = ({} : Platform).magicAccessors := by rw [X.admits.platform]
  obtain ⟨c3, c4, hc3, hc4, hasg⟩ := Cond.castable_spec hcast
  cases Option.some.inj (hc3.symm.trans hcl)
  obtain ⟨c5, hc5, hcl5⟩ := Cond.classLink_spec hown hlink e.platform hpl
  cases Option.some.inj (hc4.symm.trans hc5)
  obtain ⟨vm', X', st⟩ := X.thenCaughtThrough q (g := F0 m pc ls rest) rfl (Steps.refl _) (by rw [hT]; exact hcell) (by rw [hv]; rfl) (by obtain ⟨k9, h9, -⟩ := Vm.findClass_spec hcl; exact ⟨k9, h9⟩) pre x suf hsplit
    (fun z hz => by
      rcases hpass z hz with h | ⟨hz0, nm, hl1, hn1⟩
      · exact Or.inl h
      · obtain ⟨c6, hc6, hcl6⟩ := Cond.classLink_spec hown hl1 e.platform hpl
        obtain ⟨a8, b8, h1, h2, h3⟩ := hn1
        cases Option.some.inj (h1.symm.trans hcl)
        cases Option.some.inj (h2.symm.trans hc6)
        exact Or.inr ⟨hz0, _, hcl6, h3⟩) hx (Or.inr ⟨h0, c4, hcl5, hasg⟩)
  obtain ⟨t, a1, b1⟩ := kk (T.setVm vm') hT X'
  exact ⟨t, st.trans a1, b1⟩
end Rows
section Ends
variable {p : Program} {l : Launch} {e : Env} {R : Room} {s : State} {m : MethodId} {args : Array Value} {below : List Frame} {meth : Method} {c : Code} {H : Heap} {locs : List Loc} {cells slots : Nat} {Q : State → Prop}
variable {mc ms : Nat} {free : Addr → Prop} {A0 A1 : Nat → Prop} {H0 : Heap} {a : Array Value} {ls : Array Slot} {st0 rest : List Value}
variable {Qc : Array Value → State → Outcome → State → Prop} {XC : String → State → State → Prop}
/-- what a body that may throw owes at its end -/
def vx_MQ (below : List Frame) (Qc : Array Value → State → Outcome → State → Prop) (XC : String → State → State → Prop) (a : Array Value) (s : State) (mc ms : Nat) (free : Addr → Prop) : State → Prop := fun t =>
  ∃ o, t.status = .running ∧ Ended t below o ∧ vx_Q Qc XC mc ms free a s o t
theorem vx_ret {g : JFrame} {mc ms : Nat} (k : W p l e R s m args below meth c H locs cells slots (MQ below Qc args s mc ms free) g) : W p l e R s m args below meth c H locs cells slots (vx_MQ below Qc XC args s mc ms free) g := by
  intro T hT X
  obtain ⟨t, a1, o, b1, b2, b3, b4⟩ := k T hT X
  exact ⟨t, a1, o, b1, b2, Or.inl ⟨b3, b4⟩⟩
/-- not caught here: it goes on to the caller -/
theorem vx_widen {g : JFrame} {q : Addr} {k n : Nat} (h1 : cells ≤ k) (h2 : slots ≤ n) (kk : vx_W p l e R s m args below meth c H locs k n Q g q) : vx_W p l e R s m args below meth c H locs cells slots Q g q := fun T hT X => kk T hT (stand_widen X h1 h2)
theorem vx_out {pc : Nat} {E : String} {ce : Cell} {q : Addr} {mc ms : Nat} (hout : ∀ x ∈ c.exceptionTable.toList, covers x pc = false) (hlocks : meth.locks = false) (hcell : H[q]? = some ce) (hv : ce.vm = .none) (hcl : s.vm.findClass E = some ce.cls)
    (hx : ∀ t : State, t.heap = H → s.vm.Alike t.vm → XC E s t) (hf : ∀ z ∈ locs, free z.base) (hc : cells ≤ mc) (hs : slots ≤ ms) :
    vx_W p l e R s m args below meth c H locs cells slots (vx_MQ below Qc XC args s mc ms free) (F0 m pc ls rest) q := by
  intro T hT X
  obtain ⟨st1, hrun, hend, hW, hsm⟩ := X.leaveThrown q (g := F0 m pc ls rest) rfl rfl rfl hout hlocks
  have hcell9 : (T.setFrames (.throwing q :: below)).heap[q]? = some ce := by
    show T.heap[q]? = some ce
    rw [hT]; exact hcell
  exact ⟨_, st1, .threw q, hrun, hend, Or.inr ⟨q, rfl, E, ce, locs, hx _ hT hW.alike, hcell9, hv, hcl, hW, hsm.mono hc hs, hf⟩⟩
theorem vx_frame {U : State} {k n : Nat} (h : s.sameButNew ({ U with vm := s.vm } : State) locs k n) : s.heap.size ≤ U.heap.size ∧ ∀ q : Nat, q < s.heap.size → (∀ z ∈ locs, z.base ≠ q) → U.heap[q]? = s.heap[q]? := by
  obtain ⟨-, h2, -, -, -, h6⟩ := h
  refine ⟨h2, fun q hq hz => ?_⟩
  obtain ⟨c9, e1, e2, e3, e4⟩ := h6 q _ (Array.getElem?_eq_getElem hq)
  have hs : c9.slots = (s.heap[q]).slots := Array.ext_getElem? fun i => e4 i fun hm => hz _ hm rfl
  have h9 : c9 = s.heap[q] := by
    rw [hs] at e2
    exact e2
  have e5 : U.heap[q]? = some c9 := e1
  rw [e5, h9, Array.getElem?_eq_getElem hq]
/-- the words of a throw but the four that speak of the heap -/
def vx_no (w : Cond) : Bool := decide (w ≠ .isRef (.static Bundle.tN "UNASSIGNED_STACK" Bundle.steD)) && decide (w ≠ .isRef (.static Bundle.tN "SUPPRESSED_SENTINEL" Bundle.listD)) && decide (w ≠ .laysStatic Bundle.tN "UNASSIGNED_STACK" Bundle.steD) && decide (w ≠ .laysStatic Bundle.tN "SUPPRESSED_SENTINEL" Bundle.listD)
def vx_at0 (own : String) (ic : Nat) (X : String) (names : List String) : List Cond := (Bundle.ownAtoms0 own ic X names).filter vx_no
def vx_atS (own : String) (ic : Nat) (X : String) (names : List String) : List Cond := (Bundle.ownAtoms own ic X names).filter vx_no
/-- a word that the tables alone decide, or a good one -/
def vx_ot (w : Cond) : Bool := w.onTables || goodWord w
theorem vx_ot_at {args a' : Array Value} {s U : State} {w : Cond} (hW : s.WarmedH U.vm) (hvm : s.vm = U.vm) (hg : vx_ot w = true) (h : w.before args s = true) : w.before a' U = true := by
  simp only [vx_ot, Bool.or_eq_true] at hg
  rcases hg with hg | hg
  · exact va_tabs hg hvm h
  · exact word_at hW (good_of_word hg) h
/-- a list's words: the good ones out of the method's own list, the others by premises of their own -/
theorem vx_hat {args : Array Value} {s : State} {L B : List Cond} (h1 : ∀ w ∈ L.filter goodWord, w.before args s = true) (h2 : ∀ w ∈ L.filter (fun w => !goodWord w), w ∈ B) (h3 : ∀ w ∈ B, w.before args s = true) : ∀ w ∈ L, w.before args s = true := by
  intro w hw
  by_cases g : goodWord w = true
  · exact h1 w (List.mem_filter.mpr ⟨hw, g⟩)
  · refine h3 w (h2 w (List.mem_filter.mpr ⟨hw, ?_⟩))
    show (!goodWord w) = true
    cases hgw : goodWord w
    · rfl
    · exact absurd hgw g
theorem vx_c {args : Array Value} {s : State} {w : Cond} {B : List Cond} (h : w.before args s = true) (t : ∀ w ∈ B, w.before args s = true) : ∀ w' ∈ w :: B, w'.before args s = true := fun w' h' => (List.mem_cons.mp h').elim (fun e => by rw [e]; exact h) (t w')
theorem vx_n {args : Array Value} {s : State} : ∀ w ∈ ([] : List Cond), w.before args s = true := fun _ h => nomatch h
theorem vx_own {args : Array Value} {s : State} {L : List Cond} (h1 : ∀ w ∈ L.filter vx_no, w.before args s = true)
    (hU : (Cond.isRef (.static Bundle.tN "UNASSIGNED_STACK" Bundle.steD)).before args s = true) (hN : (Cond.isRef (.static Bundle.tN "SUPPRESSED_SENTINEL" Bundle.listD)).before args s = true)
    (lU : (Cond.laysStatic Bundle.tN "UNASSIGNED_STACK" Bundle.steD).before args s = true) (lN : (Cond.laysStatic Bundle.tN "SUPPRESSED_SENTINEL" Bundle.listD).before args s = true) : ∀ w ∈ L, w.before args s = true := by
  intro w hw
  by_cases e1 : w = .isRef (.static Bundle.tN "UNASSIGNED_STACK" Bundle.steD)
  · rw [e1]; exact hU
  · by_cases e2 : w = .isRef (.static Bundle.tN "SUPPRESSED_SENTINEL" Bundle.listD)
    · rw [e2]; exact hN
    · by_cases e3 : w = .laysStatic Bundle.tN "UNASSIGNED_STACK" Bundle.steD
      · rw [e3]; exact lU
      · by_cases e4 : w = .laysStatic Bundle.tN "SUPPRESSED_SENTINEL" Bundle.listD
        · rw [e4]; exact lN
        · exact h1 w (List.mem_filter.mpr ⟨hw, by unfold vx_no; rw [decide_eq_true e1, decide_eq_true e2, decide_eq_true e3, decide_eq_true e4]; rfl⟩)
/-- where a static field lies, its class's statics cell in H -/
def vx_L (C n d : String) (A : Nat → Prop) (U : State) (H : Heap) : Prop := ∃ (c : ClassId) (k : Class) (i : Nat) (f : Field) (a : Nat) (cell : Cell), U.vm.findClass C = some c ∧ U.fieldFound? C n d = some (c, k, i, f) ∧ f.isStatic = true ∧ k.statics = some a ∧ H[a]? = some cell ∧ cell.vm.isStatics = true ∧ cell.cls = c ∧ f.slot < cell.slots.size ∧ k.staticTypes[f.slot]? = some f.type ∧ ¬ A a
theorem vx_L.moved {C n d : String} {A : Nat → Prop} {u U : State} {H : Heap} (hvm : u.vm.Alike U.vm) (h : vx_L C n d A u H) : vx_L C n d A U H := by
  obtain ⟨c, k, i, f, a, cell, h1, h2, h3, h4, h5, h6, h7, h8, h9, h10⟩ := h
  obtain ⟨k', hi', he⟩ := State.fieldFound?_setVm hvm h2
  exact ⟨c, k', i, f, a, cell, by rw [hvm.findClass]; exact h1, hi', h3, by rw [he]; exact h4, h5, h6, h7, h8, by rw [he]; exact h9, h10⟩
theorem vx_L.kept {C n d : String} {A : Nat → Prop} {U : State} {H H1 : Heap} (h : vx_L C n d A U H) (hq : ∀ a : Nat, a < H.size → ¬ A a → H1[a]? = H[a]?) : vx_L C n d A U H1 := by
  obtain ⟨c, k, i, f, a, cell, h1, h2, h3, h4, h5, h6, h7, h8, h9, h10⟩ := h
  exact ⟨c, k, i, f, a, cell, h1, h2, h3, h4, by rw [hq a (Array.getElem?_eq_some_iff.mp h5).1 h10]; exact h5, h6, h7, h8, h9, h10⟩
theorem vx_L.narrow {C n d : String} {A B : Nat → Prop} {U : State} {H : Heap} (h : vx_L C n d A U H) (hAB : ∀ q, B q → A q) : vx_L C n d B U H := by
  obtain ⟨c, k, i, f, a, cell, h1, h2, h3, h4, h5, h6, h7, h8, h9, h10⟩ := h
  exact ⟨c, k, i, f, a, cell, h1, h2, h3, h4, h5, h6, h7, h8, h9, fun z => h10 (hAB _ z)⟩
theorem vx_L.word {C n d : String} {A : Nat → Prop} {s : State} {args : Array Value} (h : vx_L C n d A s s.heap) : (Cond.laysStatic C n d).before args s = true := by
  obtain ⟨c, k, i, f, a, cell, h1, h2, h3, h4, h5, h6, h7, h8, h9, -⟩ := h
  show (Cond.laysStatic C n d).holds args s none s [] = true
  exact Cond.laysStatic_of h1 h2 h3 h4 h5 h6 h7 h8 h9
/-- .. and what it holds: null or some reference -/
def vx_Zq (C n d : String) (A : Nat → Prop) (U : State) (H : Heap) : Prop := va_Zq C n d A U H ∧ vx_L C n d A U H
theorem vx_Zq.moved {C n d : String} {A : Nat → Prop} {u U : State} {H : Heap} (hvm : u.vm.Alike U.vm) (h : vx_Zq C n d A u H) : vx_Zq C n d A U H := ⟨va_Zq.moved hvm h.1, vx_L.moved hvm h.2⟩
theorem vx_Zq.kept {C n d : String} {A : Nat → Prop} {U : State} {H H1 : Heap} (h : vx_Zq C n d A U H) (hq : ∀ a : Nat, a < H.size → ¬ A a → H1[a]? = H[a]?) : vx_Zq C n d A U H1 := ⟨va_Zq.kept h.1 hq, vx_L.kept h.2 hq⟩
theorem vx_Zq.narrow {C n d : String} {A B : Nat → Prop} {U : State} {H : Heap} (h : vx_Zq C n d A U H) (hAB : ∀ q, B q → A q) : vx_Zq C n d B U H := ⟨va_Zq.narrow h.1 hAB, vx_L.narrow h.2 hAB⟩
theorem vx_Zqof {args : Array Value} {s : State} {C n d : String} {A : Nat → Prop} (hl : (Cond.laysStatic C n d).before args s = true) (hini : (Cond.initialized C).before args s = true) (h : (Cond.isRef (.static C n d)).before args s = true) (hA : ∀ a : Nat, a < s.heap.size → ¬ A a) : vx_Zq C n d A s s.heap := by
  refine ⟨va_Zqof hl hini h hA, ?_⟩
  obtain ⟨c, k, i, f, a, cell, h1, h2, h3, h4, h5, h6, h7, h8, h9⟩ := Cond.laysStatic_spec hl
  exact ⟨c, k, i, f, a, cell, h1, h2, h3, h4, h5, h6, h7, h8, h9, hA a (Array.getElem?_eq_some_iff.mp h5).1⟩
theorem vx_isRef {C n d : String} {v : Value} {A : Nat → Prop} {s : State} {args : Array Value} (h : va_Z C n d v A s s.heap) (hv : v.isRef = true) : (Cond.isRef (.static C n d)).before args s = true := by
  obtain ⟨cf, kf, fi, f, a, cell, h1, h2, h3, h4, h5, h6, h7, -⟩ := h
  have he : (Term.static C n d).eval args s none [] s = some v := by
    simp [Term.eval, State.fieldNamed?, h1, h2, h4, h5, h6, h7]
  simp only [Cond.before, Cond.holds, Cond.value, he]
  cases v <;> simp_all [Value.isRef]
theorem vx_isRefq {C n d : String} {A : Nat → Prop} {s : State} {args : Array Value} (h : va_Zq C n d A s s.heap) : (Cond.isRef (.static C n d)).before args s = true := by
  rcases h with h | ⟨t, h⟩
  · exact vx_isRef h rfl
  · exact vx_isRef h rfl
/-- the same frame, seen from here: as if the method were called anew in this heap -/
theorem vx_rebase {T : State} (X : Stand p l e R s m args below meth c T locs cells slots) {R' : Room} (hf : R'.frames ≤ R.frames) (hl : R'.locals ≤ R.locals) (hc : cells + R'.cells ≤ R.cells) (hs : slots + R'.slots ≤ R.slots) :
    Stand p l e R' ((T.setVm s.vm).setFrames (.invoking m args :: below)) m args below meth c T [] 0 0 := by
  have htop : (T.setVm s.vm).topJava?.isSome := X.here.top
  have hF : ((T.setVm s.vm).setFrames (.invoking m args :: below)).frames = .invoking m args :: below := State.frames_setFrames _ (State.cur_lt_of_top htop)
  obtain ⟨g₀, hg0⟩ := Option.isSome_iff_exists.mp htop
  obtain ⟨r, hr⟩ := State.topJava?_eq_some.mp hg0
  have hl9 : e.platform.stackLimits (T.setVm s.vm).me = e.platform.stackLimits s.me := X.limits
  have hb9 : (T.setVm s.vm).me.stackBytes = s.me.stackBytes := X.bytes
  refine ⟨X.admits, X.cas, X.clock, hF, ?_, X.hears, X.method, X.code, X.here, X.tail, X.warmed, ?_, ?_, ?_⟩
  · have h := X.room
    have hU : ((T.setVm s.vm).setFrames (.invoking m args :: below)).localsInUse = s.localsInUse := by
      rw [State.localsInUse_invoking hF (meth := meth) (c := c) X.method X.code, State.localsInUse_invoking X.frames X.method X.code]
    simp only [State.hasRoom, Bool.and_eq_true, decide_eq_true_eq] at h ⊢
    obtain ⟨⟨⟨⟨h1, h2, h3, h4, h5, h6⟩, h7⟩, h8⟩, h9⟩ := h
    rw [X.frames, List.length_cons] at h2 h3
    have q1 := X.heapSize
    have q2 := X.used
    simp only [hF, hU, List.length_cons, State.stackLimits_setFrames, State.stackBytes_setFrames, hl9, hb9]
    refine ⟨⟨⟨⟨by omega, by omega, by omega, by omega, by omega, h6⟩, ?_⟩, ?_⟩, X.book⟩
    · show T.heap.size + R'.cells ≤ e.platform.maxCells
      omega
    · show T.slotsUsed + R'.slots ≤ e.platform.maxSlots
      omega
  · rw [State.stackLimits_setFrames]; rfl
  · rw [State.stackBytes_setFrames]; rfl
  · refine ⟨?_, Nat.le_refl _, Nat.le_refl _, ?_, ?_, fun a c9 h9 => ⟨c9, h9, rfl, rfl, fun _ _ => rfl⟩⟩
    · obtain ⟨t, ht, -⟩ := State.frames_cons hr
      show T.setVm s.vm = { ((T.setVm s.vm).setFrames (.invoking m args :: below)).setFrames (T.setVm s.vm).frames with heap := T.heap, slotsUsed := T.slotsUsed }
      rw [State.setFrames_setFrames, State.setFrames_self ht]
      rfl
    · show T.slotsUsed = T.slotsUsed + ((T.heap.toList.drop T.heap.size).map (·.slots.size)).sum
      rw [List.drop_eq_nil_of_le (Nat.le_of_eq Array.length_toList)]
      rfl
    · show ((T.heap.toList.drop T.heap.size).map (·.slots.size)).sum ≤ 0
      rw [List.drop_eq_nil_of_le (Nat.le_of_eq Array.length_toList)]
      exact Nat.le_refl _
/-- 'throw new E()': new; dup; invokespecial; athrow -/
theorem vx_throw0 {cc : ByteArray} {pc : Nat} (hexec : p.tables.exec = Jvm.exec) (hb : c.code = cc) (hl : l.stackTraces = false) {own cls : String} {names : List String} {ik ic mc ms : Nat} {A : Nat → Prop}
    (hown : s.vm.findClass own = some m.cls) (hcls : Bundle.fit cls = true) (hnames : ∀ n ∈ names, Bundle.fit n = true)
    (hk : (Cond.classLink own ik cls).before args s = true) (hini : (Cond.initialized cls).before args s = true) (hat : ∀ w ∈ vx_at0 own ic cls names, w.before args s = true)
    (hgood : ∀ w ∈ Cond.classLink own ik cls :: Cond.initialized cls :: vx_at0 own ic cls names, vx_ot w = true)
    (hU : vx_Zq Bundle.tN "UNASSIGNED_STACK" Bundle.steD A s s.heap) (hN : vx_Zq Bundle.tN "SUPPRESSED_SENTINEL" Bundle.listD A s s.heap) (hS : va_S A s.heap H locs) (hsize : ls.size = c.maxLocals)
    (d0 : decode cc pc = .ok (.new ik, 3)) (d3 : decode cc (pc + 3) = .ok (.dup, 1)) (d4 : decode cc (pc + 4) = .ok (.invokespecial ic, 3)) (d7 : decode cc (pc + 7) = .ok (.athrow, 1))
    (hout : ∀ x ∈ c.exceptionTable.toList, covers x (pc + 7) = false)
    (hRframes : names.length + 3 < R.frames) (hRlocals : (rest.map fun v => v.category).sum + (13 * (names.length + 1) + 42) ≤ R.locals) (hRcells : cells + 1 ≤ R.cells) (hRslots : slots + 6 ≤ R.slots) (hlocks : meth.locks = false)
    (hx : ∀ t : State, s.vm.Alike t.vm → H.size ≤ t.heap.size → (∀ q : Nat, q < H.size → t.heap[q]? = H[q]?) → XC cls s t)
    (hf : ∀ z ∈ locs, free z.base) (hc : cells + 1 ≤ mc) (hs : slots + 6 ≤ ms) :
    W p l e R s m args below meth c H locs cells slots (vx_MQ below Qc XC args s mc ms free) (F0 m pc ls rest) := by
  intro T hT X
  have htr : e.platform.stackTraces = false := (show e.platform.stackTraces = l.stackTraces by rw [X.admits.platform]).trans hl
  have Y := vx_rebase X (R' := { frames := R.frames, locals := R.locals, cells := 1, slots := 6 }) (Nat.le_refl _) (Nat.le_refl _) hRcells hRslots
  obtain ⟨s', hA⟩ : ∃ z, z = (T.setVm s.vm).setFrames (.invoking m args :: below) := ⟨_, rfl⟩
  rw [← hA] at Y
  have hvm : s'.vm = s.vm := by rw [hA]; rfl
  have hhp : s'.heap = H := by rw [hA]; exact hT
  have hW0 : s.WarmedH s'.vm := by rw [hvm]; exact State.WarmedH.refl s
  have hat' : ∀ w ∈ vx_at0 own ic cls names, w.before args s' = true := fun w hw => vx_ot_at hW0 hvm.symm (hgood w (List.mem_cons_of_mem _ (List.mem_cons_of_mem _ hw))) (hat w hw)
  have hk' : (Cond.classLink own ik cls).before args s' = true := vx_ot_at hW0 hvm.symm (hgood _ List.mem_cons_self) hk
  have hini' : (Cond.initialized cls).before args s' = true := vx_ot_at hW0 hvm.symm (hgood _ (List.mem_cons_of_mem _ List.mem_cons_self)) hini
  have hU' : vx_Zq Bundle.tN "UNASSIGNED_STACK" Bundle.steD A s' s'.heap := by rw [hhp]; exact vx_Zq.moved hW0.alike (hU.kept hS.2.1)
  have hN' : vx_Zq Bundle.tN "SUPPRESSED_SENTINEL" Bundle.listD A s' s'.heap := by rw [hhp]; exact vx_Zq.moved hW0.alike (hN.kept hS.2.1)
  have h : ∀ w ∈ Bundle.ownAtoms0 own ic cls names, w.before args s' = true := vx_own hat' (vx_isRefq hU'.1) (vx_isRefq hN'.1) hU'.2.word hN'.2.word
  have hown' : s'.vm.findClass own = some m.cls := by rw [hvm]; exact hown
  have hins : (Cond.instantiable cls 6).before args s' = true := h _ (by simp [Bundle.ownAtoms0])
  obtain ⟨vm₁, cX, kX, hfX, hkX, -, -, X₁, st1⟩ := Y.newCold hexec (own := own) (C := cls) (index := ik) (n := 6) hown' hk' hins hini'
    (g := F0 m pc ls rest) rfl (by rw [hb]; exact d0) (Nat.le_refl _) (Nat.le_refl _)
  generalize hT1 : (T.setVm vm₁).pushCell { cls := cX, slots := kX.instanceTypes.map defaultValue, vm := .none } = T1 at X₁ st1
  have hcat : (Value.ref T.heap.size).category = 1 := rfl
  have hcellA : T1.heap[T.heap.size]? = some (freshCell cX kX) := by rw [← hT1]; exact State.heap_pushCell_size _ _
  have d3' : decode c.code (pc + 3) = .ok (.dup, 1) := by rw [hb]; exact d3
  obtain ⟨U, hsteps, hrun, hend, hW, hsame, ce, hce, hO⟩ := X₁.ctorThrow0 hexec htr (own := own) (cls := cls) (names := names) (ic := ic) hown' hcls hnames h (fun x hx => nomatch hx) hfX hkX hcellA (by rw [hhp, hT]; exact Nat.le_refl _)
    (g := { method := m, pc := pc + 4, locals := ls, stack := .ref T.heap.size :: .ref T.heap.size :: rest, locked := none }) rfl hsize rfl rfl (rest := rest) rfl
    (by rw [hb]; exact d4) (by rw [hb]; exact d7) hout hRframes (by simp only [List.map_cons, List.sum_cons, hcat]; omega) hlocks
  obtain ⟨f1, f2⟩ := vx_frame hsame
  rw [hhp] at f1 f2
  have hWs : s.WarmedH U.vm := State.WarmedH.trans hW0 hW
  have hcl : s.vm.findClass cls = some ce.cls := by
    have h9 := hO.cls
    rw [hvm] at h9
    exact h9
  have hall : s.sameButNew ({ U with vm := s.vm } : State) locs mc ms := by
    subst hA
    obtain ⟨e1, e2⟩ := hsame
    rw [State.setFrames_setFrames] at e1
    have h2 : (T.setVm s.vm).sameButNew ({ U with vm := s.vm } : State) [] (0 + 1) (0 + 6) := ⟨e1, e2⟩
    have h3 := X.same.trans h2
    rw [List.append_nil] at h3
    exact h3.mono hc hs
  refine ⟨U, ?_, .threw T.heap.size, hrun, hend, Or.inr ⟨T.heap.size, rfl, cls, ce, locs, hx U hWs.alike f1 (fun q hq => f2 q hq (fun z hz => nomatch hz)), hce, hO.vm, hcl, hWs, hall, hf⟩⟩
  refine st1 _ ?_
  show Steps p.tables e below (T1.setTop { method := m, pc := pc + 3, locals := ls, stack := .ref T.heap.size :: rest, locked := none }) _
  jvm_step X₁.here [X₁.here.top, hexec, d3', Value.category]
  exact hsteps
/-- 'throw new E("text")': new; dup; ldc; invokespecial; athrow -/
theorem vx_throwS {cc : ByteArray} {pc : Nat} (hexec : p.tables.exec = Jvm.exec) (hb : c.code = cc) (hl : l.stackTraces = false) {own cls text : String} {names : List String} {ik is ic mc ms sa : Nat} {A : Nat → Prop}
    (hown : s.vm.findClass own = some m.cls) (hcls : Bundle.fit cls = true) (hnames : ∀ n ∈ names, Bundle.fit n = true)
    (hk : (Cond.classLink own ik cls).before args s = true) (hini : (Cond.initialized cls).before args s = true) (hstr : vk_R own is text sa s) (hat : ∀ w ∈ vx_atS own ic cls names, w.before args s = true)
    (hgood : ∀ w ∈ Cond.classLink own ik cls :: Cond.initialized cls :: vx_atS own ic cls names, vx_ot w = true)
    (hU : vx_Zq Bundle.tN "UNASSIGNED_STACK" Bundle.steD A s s.heap) (hN : vx_Zq Bundle.tN "SUPPRESSED_SENTINEL" Bundle.listD A s s.heap) (hS : va_S A s.heap H locs) (hsize : ls.size = c.maxLocals)
    (d0 : decode cc pc = .ok (.new ik, 3)) (d3 : decode cc (pc + 3) = .ok (.dup, 1)) (d4 : decode cc (pc + 4) = .ok (.ldc is, 2)) (d6 : decode cc (pc + 6) = .ok (.invokespecial ic, 3)) (d9 : decode cc (pc + 9) = .ok (.athrow, 1))
    (hout : ∀ x ∈ c.exceptionTable.toList, covers x (pc + 9) = false)
    (hRframes : names.length + 3 < R.frames) (hRlocals : (rest.map fun v => v.category).sum + (13 * (names.length + 1) + 43) ≤ R.locals) (hRcells : cells + 1 ≤ R.cells) (hRslots : slots + 6 ≤ R.slots) (hlocks : meth.locks = false)
    (hx : ∀ t : State, s.vm.Alike t.vm → H.size ≤ t.heap.size → (∀ q : Nat, q < H.size → t.heap[q]? = H[q]?) → XC cls s t)
    (hf : ∀ z ∈ locs, free z.base) (hc : cells + 1 ≤ mc) (hs : slots + 6 ≤ ms) :
    W p l e R s m args below meth c H locs cells slots (vx_MQ below Qc XC args s mc ms free) (F0 m pc ls rest) := by
  intro T hT X
  have htr : e.platform.stackTraces = false := (show e.platform.stackTraces = l.stackTraces by rw [X.admits.platform]).trans hl
  have Y := vx_rebase X (R' := { frames := R.frames, locals := R.locals, cells := 1, slots := 6 }) (Nat.le_refl _) (Nat.le_refl _) hRcells hRslots
  obtain ⟨s', hA⟩ : ∃ z, z = (T.setVm s.vm).setFrames (.invoking m args :: below) := ⟨_, rfl⟩
  rw [← hA] at Y
  have hvm : s'.vm = s.vm := by rw [hA]; rfl
  have hhp : s'.heap = H := by rw [hA]; exact hT
  have hW0 : s.WarmedH s'.vm := by rw [hvm]; exact State.WarmedH.refl s
  have hat' : ∀ w ∈ vx_atS own ic cls names, w.before args s' = true := fun w hw => vx_ot_at hW0 hvm.symm (hgood w (List.mem_cons_of_mem _ (List.mem_cons_of_mem _ hw))) (hat w hw)
  have hk' : (Cond.classLink own ik cls).before args s' = true := vx_ot_at hW0 hvm.symm (hgood _ List.mem_cons_self) hk
  have hini' : (Cond.initialized cls).before args s' = true := vx_ot_at hW0 hvm.symm (hgood _ (List.mem_cons_of_mem _ List.mem_cons_self)) hini
  have hU' : vx_Zq Bundle.tN "UNASSIGNED_STACK" Bundle.steD A s' s'.heap := by rw [hhp]; exact vx_Zq.moved hW0.alike (hU.kept hS.2.1)
  have hN' : vx_Zq Bundle.tN "SUPPRESSED_SENTINEL" Bundle.listD A s' s'.heap := by rw [hhp]; exact vx_Zq.moved hW0.alike (hN.kept hS.2.1)
  have h : ∀ w ∈ Bundle.ownAtoms own ic cls names, w.before args s' = true := vx_own hat' (vx_isRefq hU'.1) (vx_isRefq hN'.1) hU'.2.word hN'.2.word
  have hown' : s'.vm.findClass own = some m.cls := by rw [hvm]; exact hown
  have hins : (Cond.instantiable cls 6).before args s' = true := h _ (by simp [Bundle.ownAtoms])
  obtain ⟨vm₁, cX, kX, hfX, hkX, -, -, X₁, st1⟩ := Y.newCold hexec (own := own) (C := cls) (index := ik) (n := 6) hown' hk' hins hini'
    (g := F0 m pc ls rest) rfl (by rw [hb]; exact d0) (Nat.le_refl _) (Nat.le_refl _)
  generalize hT1 : (T.setVm vm₁).pushCell { cls := cX, slots := kX.instanceTypes.map defaultValue, vm := .none } = T1 at X₁ st1
  have hcat : (Value.ref T.heap.size).category = 1 := rfl
  have hcellA : T1.heap[T.heap.size]? = some (freshCell cX kX) := by rw [← hT1]; exact State.heap_pushCell_size _ _
  have d3' : decode c.code (pc + 3) = .ok (.dup, 1) := by rw [hb]; exact d3
  have d4' : decode c.code (pc + 4) = .ok (.ldc is, 2) := by rw [hb]; exact d4
  have hstr' : vk_R own is text sa s' := vk_R.warm hW0 hstr
  obtain ⟨U, hsteps, hrun, hend, hW, hsame, ce, hce, hO⟩ := X₁.ctorThrowS hexec htr (own := own) (cls := cls) (names := names) (ic := ic) hown' hcls hnames h (fun x hx => nomatch hx) hfX hkX hcellA (by rw [hhp, hT]; exact Nat.le_refl _) (msg := .ref sa) rfl
    (g := { method := m, pc := pc + 6, locals := ls, stack := .ref sa :: .ref T.heap.size :: .ref T.heap.size :: rest, locked := none }) rfl hsize rfl rfl (rest := rest) rfl
    (by rw [hb]; exact d6) (by rw [hb]; exact d9) hout hRframes (by simp only [List.map_cons, List.sum_cons, hcat]; omega) hlocks
  obtain ⟨f1, f2⟩ := vx_frame hsame
  rw [hhp] at f1 f2
  have hWs : s.WarmedH U.vm := State.WarmedH.trans hW0 hW
  have hcl : s.vm.findClass cls = some ce.cls := by
    have h9 := hO.cls
    rw [hvm] at h9
    exact h9
  have hall : s.sameButNew ({ U with vm := s.vm } : State) locs mc ms := by
    subst hA
    obtain ⟨e1, e2⟩ := hsame
    rw [State.setFrames_setFrames] at e1
    have h2 : (T.setVm s.vm).sameButNew ({ U with vm := s.vm } : State) [] (0 + 1) (0 + 6) := ⟨e1, e2⟩
    have h3 := X.same.trans h2
    rw [List.append_nil] at h3
    exact h3.mono hc hs
  refine ⟨U, ?_, .threw T.heap.size, hrun, hend, Or.inr ⟨T.heap.size, rfl, cls, ce, locs, hx U hWs.alike f1 (fun q hq => f2 q hq (fun z hz => nomatch hz)), hce, hO.vm, hcl, hWs, hall, hf⟩⟩
  refine st1 _ ?_
  show Steps p.tables e below (T1.setTop { method := m, pc := pc + 3, locals := ls, stack := .ref T.heap.size :: rest, locked := none }) _
  jvm_step X₁.here [X₁.here.top, hexec, d3', Value.category]
  exact X₁.ldcString hexec (own := own) (text := text) (index := is) (a := sa) hown' hstr'.1 hstr'.2
    (g := { method := m, pc := pc + 4, locals := ls, stack := .ref T.heap.size :: .ref T.heap.size :: rest, locked := none }) rfl d4' _ hsteps
/-- 'throw new E("text")', the text by a wide index -/
theorem vx_throwSW {cc : ByteArray} {pc : Nat} (hexec : p.tables.exec = Jvm.exec) (hb : c.code = cc) (hl : l.stackTraces = false) {own cls text : String} {names : List String} {ik is ic mc ms sa : Nat} {A : Nat → Prop}
    (hown : s.vm.findClass own = some m.cls) (hcls : Bundle.fit cls = true) (hnames : ∀ n ∈ names, Bundle.fit n = true)
    (hk : (Cond.classLink own ik cls).before args s = true) (hini : (Cond.initialized cls).before args s = true) (hstr : vk_R own is text sa s) (hat : ∀ w ∈ vx_atS own ic cls names, w.before args s = true)
    (hgood : ∀ w ∈ Cond.classLink own ik cls :: Cond.initialized cls :: vx_atS own ic cls names, vx_ot w = true)
    (hU : vx_Zq Bundle.tN "UNASSIGNED_STACK" Bundle.steD A s s.heap) (hN : vx_Zq Bundle.tN "SUPPRESSED_SENTINEL" Bundle.listD A s s.heap) (hS : va_S A s.heap H locs) (hsize : ls.size = c.maxLocals)
    (d0 : decode cc pc = .ok (.new ik, 3)) (d3 : decode cc (pc + 3) = .ok (.dup, 1)) (d4 : decode cc (pc + 4) = .ok (.ldc_w is, 3)) (d7 : decode cc (pc + 7) = .ok (.invokespecial ic, 3)) (d10 : decode cc (pc + 10) = .ok (.athrow, 1))
    (hout : ∀ x ∈ c.exceptionTable.toList, covers x (pc + 10) = false)
    (hRframes : names.length + 3 < R.frames) (hRlocals : (rest.map fun v => v.category).sum + (13 * (names.length + 1) + 43) ≤ R.locals) (hRcells : cells + 1 ≤ R.cells) (hRslots : slots + 6 ≤ R.slots) (hlocks : meth.locks = false)
    (hx : ∀ t : State, s.vm.Alike t.vm → H.size ≤ t.heap.size → (∀ q : Nat, q < H.size → t.heap[q]? = H[q]?) → XC cls s t)
    (hf : ∀ z ∈ locs, free z.base) (hc : cells + 1 ≤ mc) (hs : slots + 6 ≤ ms) :
    W p l e R s m args below meth c H locs cells slots (vx_MQ below Qc XC args s mc ms free) (F0 m pc ls rest) := by
  intro T hT X
  have htr : e.platform.stackTraces = false := (show e.platform.stackTraces = l.stackTraces by rw [X.admits.platform]).trans hl
  have Y := vx_rebase X (R' := { frames := R.frames, locals := R.locals, cells := 1, slots := 6 }) (Nat.le_refl _) (Nat.le_refl _) hRcells hRslots
  obtain ⟨s', hA⟩ : ∃ z, z = (T.setVm s.vm).setFrames (.invoking m args :: below) := ⟨_, rfl⟩
  rw [← hA] at Y
  have hvm : s'.vm = s.vm := by rw [hA]; rfl
  have hhp : s'.heap = H := by rw [hA]; exact hT
  have hW0 : s.WarmedH s'.vm := by rw [hvm]; exact State.WarmedH.refl s
  have hat' : ∀ w ∈ vx_atS own ic cls names, w.before args s' = true := fun w hw => vx_ot_at hW0 hvm.symm (hgood w (List.mem_cons_of_mem _ (List.mem_cons_of_mem _ hw))) (hat w hw)
  have hk' : (Cond.classLink own ik cls).before args s' = true := vx_ot_at hW0 hvm.symm (hgood _ List.mem_cons_self) hk
  have hini' : (Cond.initialized cls).before args s' = true := vx_ot_at hW0 hvm.symm (hgood _ (List.mem_cons_of_mem _ List.mem_cons_self)) hini
  have hU' : vx_Zq Bundle.tN "UNASSIGNED_STACK" Bundle.steD A s' s'.heap := by rw [hhp]; exact vx_Zq.moved hW0.alike (hU.kept hS.2.1)
  have hN' : vx_Zq Bundle.tN "SUPPRESSED_SENTINEL" Bundle.listD A s' s'.heap := by rw [hhp]; exact vx_Zq.moved hW0.alike (hN.kept hS.2.1)
  have h : ∀ w ∈ Bundle.ownAtoms own ic cls names, w.before args s' = true := vx_own hat' (vx_isRefq hU'.1) (vx_isRefq hN'.1) hU'.2.word hN'.2.word
  have hown' : s'.vm.findClass own = some m.cls := by rw [hvm]; exact hown
  have hins : (Cond.instantiable cls 6).before args s' = true := h _ (by simp [Bundle.ownAtoms])
  obtain ⟨vm₁, cX, kX, hfX, hkX, -, -, X₁, st1⟩ := Y.newCold hexec (own := own) (C := cls) (index := ik) (n := 6) hown' hk' hins hini'
    (g := F0 m pc ls rest) rfl (by rw [hb]; exact d0) (Nat.le_refl _) (Nat.le_refl _)
  generalize hT1 : (T.setVm vm₁).pushCell { cls := cX, slots := kX.instanceTypes.map defaultValue, vm := .none } = T1 at X₁ st1
  have hcat : (Value.ref T.heap.size).category = 1 := rfl
  have hcellA : T1.heap[T.heap.size]? = some (freshCell cX kX) := by rw [← hT1]; exact State.heap_pushCell_size _ _
  have d3' : decode c.code (pc + 3) = .ok (.dup, 1) := by rw [hb]; exact d3
  have d4' : decode c.code (pc + 4) = .ok (.ldc_w is, 3) := by rw [hb]; exact d4
  have hstr' : vk_R own is text sa s' := vk_R.warm hW0 hstr
  obtain ⟨U, hsteps, hrun, hend, hW, hsame, ce, hce, hO⟩ := X₁.ctorThrowS hexec htr (own := own) (cls := cls) (names := names) (ic := ic) hown' hcls hnames h (fun x hx => nomatch hx) hfX hkX hcellA (by rw [hhp, hT]; exact Nat.le_refl _) (msg := .ref sa) rfl
    (g := { method := m, pc := pc + 7, locals := ls, stack := .ref sa :: .ref T.heap.size :: .ref T.heap.size :: rest, locked := none }) rfl hsize rfl rfl (rest := rest) rfl
    (by rw [hb]; exact d7) (by rw [hb]; exact d10) hout hRframes (by simp only [List.map_cons, List.sum_cons, hcat]; omega) hlocks
  obtain ⟨f1, f2⟩ := vx_frame hsame
  rw [hhp] at f1 f2
  have hWs : s.WarmedH U.vm := State.WarmedH.trans hW0 hW
  have hcl : s.vm.findClass cls = some ce.cls := by
    have h9 := hO.cls
    rw [hvm] at h9
    exact h9
  have hall : s.sameButNew ({ U with vm := s.vm } : State) locs mc ms := by
    subst hA
    obtain ⟨e1, e2⟩ := hsame
    rw [State.setFrames_setFrames] at e1
    have h2 : (T.setVm s.vm).sameButNew ({ U with vm := s.vm } : State) [] (0 + 1) (0 + 6) := ⟨e1, e2⟩
    have h3 := X.same.trans h2
    rw [List.append_nil] at h3
    exact h3.mono hc hs
  refine ⟨U, ?_, .threw T.heap.size, hrun, hend, Or.inr ⟨T.heap.size, rfl, cls, ce, locs, hx U hWs.alike f1 (fun q hq => f2 q hq (fun z hz => nomatch hz)), hce, hO.vm, hcl, hWs, hall, hf⟩⟩
  refine st1 _ ?_
  show Steps p.tables e below (T1.setTop { method := m, pc := pc + 3, locals := ls, stack := .ref T.heap.size :: rest, locked := none }) _
  jvm_step X₁.here [X₁.here.top, hexec, d3', Value.category]
  exact X₁.ldcStringW hexec (own := own) (text := text) (index := is) (a := sa) hown' hstr'.1 hstr'.2
    (g := { method := m, pc := pc + 4, locals := ls, stack := .ref T.heap.size :: .ref T.heap.size :: rest, locked := none }) rfl d4' _ hsteps
end Ends
section Bodies
variable {l : Launch}
theorem vx_ofW {y : MethodName} {ws ws' : List Cond} {rm : Room} {Pc : Array Value → State → Prop} {Qc : Array Value → State → Outcome → State → Prop} {XC : String → State → State → Prop} {mc ms : Nat} {free : Addr → Prop} {cc : ByteArray} {maxL : Nat} {ret : Option FieldType}
    (hy : plainName y.cls = true) (hw : ws = Cond.code y cc maxL ret :: ws')
    (body : ∀ p e s m args below meth c s₁, BodyLoose p l y (headSpec ws rm) cc maxL ret e s m args below meth c s₁ → c.maxLocals = maxL → (∀ x ∈ c.exceptionTable.toList, False) → Pc args s →
      W p l e (headSpec ws rm).room s m args below meth c s.heap [] 0 0 (vx_MQ below Qc XC args s mc ms free) (entryFrame m args maxL)) : vx_Met l y ws rm Pc Qc XC mc ms free := by
  refine MetFree.of_bodyS (code := cc) (maxLocals := maxL) (ret := ret) hy ?_ ?_
  · intro args s m h hn
    obtain ⟨meth, c, h1, h2, h3, h4, h5, h6, -, -⟩ := Cond.code_spec hn (atoms_spec (ws := ws) h _ (by rw [hw]; exact List.mem_cons_self))
    exact ⟨meth, c, h1, h2, h3, h4, h5, h6⟩
  · intro p e s m args below meth c s₁ B hml hP _
    have hh0 : s₁.heap = s.heap := by rw [B.state]; rfl
    have ht : ∀ x ∈ c.exceptionTable.toList, False := by
      obtain ⟨meth9, c9, h1, h2, -, -, -, -, h7, -⟩ := Cond.code_spec B.named (atoms_spec (ws := ws) B.pre _ (by rw [hw]; exact List.mem_cons_self))
      cases Option.some.inj (h1.symm.trans B.method)
      cases Option.some.inj (h2.symm.trans (Stand.of_body B).code)
      intro x hx
      rw [Array.isEmpty_iff.mp h7] at hx
      cases hx
    obtain ⟨t, a1, o, b1, b2, b3⟩ := body p e s m args below meth c s₁ B hml ht hP s₁ hh0 (Stand.of_body B)
    exact ⟨t, o, a1, b1, b2, b3⟩
/-- the table of a body with handlers -/
theorem vx_table {p : Program} {x y : MethodName} {S : Spec} {cc bytes : ByteArray} {maxL maxL' : Nat} {ret ret' : Option FieldType} {e : Env} {s s₁ : State} {m : MethodId} {args : Array Value} {below : List Frame} {meth : Method} {c : Code} {hh : List (Nat × Nat × Nat × Nat)}
    (B : BodyLoose p l y S cc maxL ret e s m args below meth c s₁) (h : (Cond.codeWith y bytes maxL' ret' hh).before args s = true) : c.exceptionTable.toList = tableOf hh := by
  obtain ⟨m9, meth9, c9, hn9, h1, h2, -, -, h6, -⟩ := Cond.codeWith_spec h
  cases Option.some.inj (hn9.symm.trans B.named)
  cases Option.some.inj (h1.symm.trans B.method)
  cases Option.some.inj (h2.symm.trans (Stand.of_body B).code)
  rw [← h6, table_eq]
end Bodies
end VXA
/-! ===== END ===== -/
/-! ===== BEGIN a static call of a method with an exception table ===== -/
section VXS
variable {p : Program} {l : Launch} {e : Env} {R : Room} {s : State} {m : MethodId} {args : Array Value} {below : List Frame} {meth : Method} {c : Code} {T : State} {H : Heap} {locs : List Loc} {cells slots : Nat}
abbrev vx_CSW (R : Room) (s : State) (args : Array Value) (own : String) (index : Nat) (y : MethodName) (bytes : ByteArray) (maxL : Nat) (ret : Option FieldType) (hh : List (Nat × Nat × Nat × Nat)) (ws : List Cond) (rm : Room) (mc ms n : Nat) : Prop :=
  (rm.cells = mc ∧ rm.slots = ms ∧ rm.frames + 1 ≤ R.frames ∧ 8 + (maxL + 11) + rm.locals ≤ R.locals ∧ (∀ w ∈ ws, ∀ (a' : Array Value) (U : State), s.WarmedH U.vm → w.before a' U = true) ∧ Cond.codeWith y bytes maxL ret hh ∈ ws) ∧
  (Cond.codeWith y bytes maxL ret hh).before args s = true ∧ (Cond.initialized y.cls).before args s = true ∧ (y.cls ≠ "java/lang/invoke/MethodHandle" ∧ y.cls ≠ "java/lang/invoke/VarHandle") ∧
  (∀ sig, parseMethodDescriptor y.desc = some sig → n = sig.parameters.length) ∧ (Cond.methodLink own index y).before args s = true ∧ (Cond.static y).before args s = true
theorem vx_cwSW {own : String} {index maxL mc ms : Nat} {y : MethodName} {bytes : ByteArray} {ret : Option FieldType} {hh : List (Nat × Nat × Nat × Nat)} {Ts ws ws' : List Cond} {rm : Room} (n : Nat) (ht : ∀ w ∈ Ts, w.before args s = true) (hT : GoodIn Ts (va_wsS own index y ws)) (hw : ws = Cond.codeWith y bytes maxL ret hh :: ws') (hrc : rm.cells = mc) (hrs : rm.slots = ms)
    (hd : y.cls ≠ "java/lang/invoke/MethodHandle" ∧ y.cls ≠ "java/lang/invoke/VarHandle" ∧ (parseMethodDescriptor y.desc).map (fun d => d.parameters.length) = some n) (hR : rm.frames + 1 ≤ R.frames ∧ 8 + (maxL + 11) + rm.locals ≤ R.locals) :
    vx_CSW R s args own index y bytes maxL ret hh ws rm mc ms n := by
  have ok : ∀ w ∈ va_wsS own index y ws, w.before args s = true := fun w h => ht w (hT w h).1
  have hG : GoodIn Ts ws := fun w h => hT w (by unfold va_wsS; exact List.mem_append_right _ h)
  have hc : Cond.codeWith y bytes maxL ret hh ∈ ws := by rw [hw]; exact List.mem_cons_self
  refine ⟨⟨hrc, hrs, hR.1, hR.2, pay_in ht hG, hc⟩, ht _ (hG _ hc).1, ok _ (by simp [va_wsS]), ⟨hd.1, hd.2.1⟩, fun sig h => ?_, ok _ (by simp [va_wsS]), ok _ (by simp [va_wsS])⟩
  have h2 := hd.2.2
  rw [h] at h2
  exact (Option.some.inj h2).symm
theorem vx_callSW (X : Stand p l e R s m args below meth c T locs cells slots) (hexec : p.tables.exec = Jvm.exec) {own : String} {index : Nat} {y : MethodName} {bytes : ByteArray} {maxL : Nat} {ret : Option FieldType} {hh : List (Nat × Nat × Nat × Nat)}
    (hown : s.vm.findClass own = some m.cls) (hlink : (Cond.methodLink own index y).before args s = true) (hstat : (Cond.static y).before args s = true) (hinit : (Cond.initialized y.cls).before args s = true)
    (hcode : (Cond.codeWith y bytes maxL ret hh).before args s = true) (hy : y.cls ≠ "java/lang/invoke/MethodHandle" ∧ y.cls ≠ "java/lang/invoke/VarHandle")
    {W9 : Nat} {Pre : Pt → Array Value → Prop} {Post : Pt → Array Value → Option Value → Pt → Prop} (hK : Back l R p e below s args y 3 W9 Pre Post)
    {g : JFrame} (hg : g.method = m) (hsize : g.locals.size = c.maxLocals) {argsL rest : List Value} (hlen : ∀ sig, parseMethodDescriptor y.desc = some sig → argsL.length = sig.parameters.length)
    (hstack : g.stack = argsL.reverse ++ rest) (hW : 2 * g.monitorRoom + (rest.map fun v => v.category).sum ≤ W9) (hdg : decode c.code g.pc = .ok (.invokestatic index, 3))
    (hpre : ∀ vm₁, s.WarmedH vm₁ → Pre ⟨T.setVm vm₁, locs, cells, slots⟩ argsL.toArray) :
    ∃ (v : Option Value) (vm₁ : Vm) (B : Pt), s.WarmedH vm₁ ∧ Stand p l e R s m args below meth c B.U B.locs B.cells B.slots ∧ Post ⟨T.setVm vm₁, locs, cells, slots⟩ argsL.toArray v B ∧
      ∀ target, Steps p.tables e below (B.U.setTop { g with pc := g.pc + 3, stack := v.toList ++ rest }) target → Steps p.tables e below (T.setTop g) target := by
  obtain ⟨mk, methM, cM, hnamed, hmethM, -, -, -, -, -, -, hsigM⟩ := Cond.codeWith_spec hcode
  have hstatic : methM.isStatic = true := Cond.static_spec hnamed hmethM hstat
  obtain ⟨kP, hkP, -⟩ := className_of_methodNamed hnamed
  have hinitP : kP.init = .initialized := Cond.initialized_spec (findClass_of_methodNamed hnamed) hkP hinit
  obtain ⟨vm₁, X₁, hstep₁⟩ := X.invokestatic hexec hown hlink hnamed hmethM hstatic hkP hinitP hy (g := g) hg (argsL := argsL) (rest := rest) (hlen _ hsigM) hstack hdg
  obtain ⟨v, B, X', hpost, hsteps⟩ := hK m meth c ⟨T.setVm vm₁, locs, cells, slots⟩ { g with stack := rest } (.invokestatic index) mk argsL.toArray X₁ hg hsize hdg hW (X₁.named hnamed) (hpre vm₁ X₁.warmed)
  exact ⟨v, vm₁, B, X₁.warmed, X', hpost, fun target h => hstep₁ _ fun acts => by rw [doInvoke_state]; exact hsteps.trans h⟩
theorem vx_runSW {y : MethodName} {bytes cc : ByteArray} {maxL nL mc ms n index : Nat} {ret : Option FieldType} {hh : List (Nat × Nat × Nat × Nat)} {ws : List Cond} {rm : Room} {Pc : Array Value → State → Prop} {Qc : Array Value → State → Outcome → State → Prop} {free : Addr → Prop} {Ts : List Cond} {own : String} {As rest : List Value} {g : JFrame}
    (S : CallFix p m c cc nL s args Ts own) (hM : Met l y ws rm Pc Qc mc ms free) (cw : vx_CSW R s args own index y bytes maxL ret hh ws rm mc ms n) (hp : PreS s H Pc As)
    (hg : g.method = m) (hn : As.length = n) (hsize : g.locals.size = nL) (hstack : g.stack = As.reverse ++ rest) (hW : 2 * g.monitorRoom + (rest.map fun v => v.category).sum ≤ 8) (hdg : decode cc g.pc = .ok (.invokestatic index, 3)) (hf : cells + mc ≤ R.cells ∧ slots + ms ≤ R.slots) :
    va_Run p l e R s m args below meth c H locs cells slots mc ms g rest (Qc As.toArray) (free) := by
  obtain ⟨⟨hrc, hrs, hfr, hlo, hws, hcw⟩, hcode, hini, hy, hlen, hl, hstt⟩ := cw
  have hK : Back l R p e below s args y 3 8 (PreOf R mc ms Pc) (PostOf Qc mc ms free) := va_backW (hh := hh) (bytes := bytes) (maxL := maxL) (ret := ret) hM hp.1 hrc hrs hfr hlo hws hcw (fun a' U hW => word_at hW (Or.inl (by first | rfl | simp [Cond.onTables, Cond.keeps, Cond.steady])) hini)
  obtain ⟨hx, hb, hml, ho, -⟩ := S
  intro T hT X
  obtain ⟨v, vm₁, ⟨U', l2, c2, s2⟩, hW₁, X', ⟨g', mk, t, L, e1, e2, hq, h1, hL, h2, h3⟩, st⟩ := vx_callSW X hx (hh := hh) (bytes := bytes) (maxL := maxL) (ret := ret) ho hl hstt hini hcode hy hK hg (hsize.trans hml.symm) (argsL := As) (rest := rest) (fun sig h => hn.trans (hlen sig h)) hstack hW (by rw [hb]; exact hdg)
    (fun vm₁ hW₁ => ⟨hf.1, hf.2, hp.2 (T.setVm vm₁) hT hW₁⟩)
  dsimp only [Pt.U, Pt.locs, Pt.cells, Pt.slots] at X' e1 e2 h1 h2 h3 st
  subst h1; subst h2; subst h3
  exact ⟨v, (T.setVm vm₁).calling g' mk As.toArray, t, U', L, hT, X', hL, e1, e2, hq, st⟩
/-- not caught here, past rows that name other classes: it goes on to the caller -/
theorem vx_outP {p : Program} {l : Launch} {e : Env} {R : Room} {s : State} {m : MethodId} {args : Array Value} {below : List Frame} {meth : Method} {c : Code} {H : Heap} {locs : List Loc} {cells slots : Nat} {free : Addr → Prop} {ls : Array Slot} {rest : List Value} {Qc : Array Value → State → Outcome → State → Prop} {XC : String → State → State → Prop}
    {pc : Nat} {own E : String} {ce : Cell} {q : Addr} {mc ms : Nat} (hown : s.vm.findClass own = some m.cls) (hlocks : meth.locks = false)
    (hpass : ∀ z ∈ c.exceptionTable.toList, covers z pc = false ∨ (z.catchType ≠ 0 ∧ ∃ nm : String, (Cond.classLink own z.catchType nm).before args s = true ∧ va_Nc E nm s)) (hcell : H[q]? = some ce) (hv : ce.vm = .none) (hcl : s.vm.findClass E = some ce.cls)
    (hx : ∀ t : State, t.heap = H → s.vm.Alike t.vm → XC E s t) (hf : ∀ z ∈ locs, free z.base) (hc : cells ≤ mc) (hs : slots ≤ ms) :
    vx_W p l e R s m args below meth c H locs cells slots (vx_MQ below Qc XC args s mc ms free) (F0 m pc ls rest) q := by
  intro T hT X
  have hpl : e.platform.magicAccessors = ({} : Platform).magicAccessors := by rw [X.admits.platform]
  obtain ⟨vm', hW', X', st⟩ := X.outThrough hlocks q (g := F0 m pc ls rest) rfl rfl rfl (cell := ce) (by rw [hT]; exact hcell) (by rw [hv]; rfl)
    (by obtain ⟨k9, h9, -⟩ := Vm.findClass_spec hcl; exact ⟨k9, h9⟩) (fun z hz => by
      rcases hpass z hz with h | ⟨hz0, nm, hl1, hn1⟩
      · exact Or.inl h
      · obtain ⟨c6, hc6, hcl6⟩ := Cond.classLink_spec hown hl1 e.platform hpl
        obtain ⟨a8, b8, h1, h2, h3⟩ := hn1
        cases Option.some.inj (h1.symm.trans hcl)
        cases Option.some.inj (h2.symm.trans hc6)
        exact Or.inr ⟨hz0, _, hcl6, h3⟩)
  obtain ⟨g₀, hfr⟩ := X'.frames_eq
  have hcell9 : ((T.setVm vm').setFrames (.throwing q :: below)).heap[q]? = some ce := by
    show T.heap[q]? = some ce
    rw [hT]; exact hcell
  have hend : Ended ((T.setVm vm').setFrames (.throwing q :: below)) below (.threw q) := State.frames_setFrames _ (State.cur_lt_of_frames hfr)
  refine ⟨(T.setVm vm').setFrames (.throwing q :: below), ?_, .threw q, X'.here.running, hend, Or.inr ⟨q, rfl, E, ce, locs, hx _ hT (X'.ends _).1.alike, hcell9, hv, hcl, (X'.ends _).1, (X'.ends _).2.mono hc hs, hf⟩⟩
  rw [X.pushThrowing_eq]
  exact st
/-- a thing of a world lies in the heap -/
theorem vx_lt {D : va_G} {cl : List vw_C} {ws : va_W} {H1 : Heap} (h : va_P D cl ws H1) {k : Nat} {q : Nat × va_E} (hk : ws[k]? = some q) : q.1 < H1.size := (h k q hk).lt
end VXS
/-! ===== END ===== -/
/-! ===== BEGIN methods with a table of their own: called by a name, returning or throwing ===== -/
section VXH
/-! vx_backW, vx_callVX, vx_callSX, vx_callVW, vx_runVW, vx_runVX, vx_runSX, vx_ofWH follow the same proofs as their sisters above (Free/Laws.lean, Shelf42/LK1.lean); vx_outP calls Shelf42/NT130.lean (outThrough). -/
section
variable {l : Launch} {R : Room} {p : Program} {e : Env} {below : List Frame} {s : State} {sargs : Array Value} {y : MethodName} {len W9 : Nat}
theorem vx_backW {ws : List Cond} {rm : Room} {Pc : Array Value → State → Prop} {Qc : Array Value → State → Outcome → State → Prop} {XC : String → State → State → Prop} {mc ms : Nat} {free : Addr → Prop} {bytes : ByteArray} {maxL : Nat} {ret : Option FieldType} {hh : List (Nat × Nat × Nat × Nat)}
    (hM : vx_Met l y ws rm Pc Qc XC mc ms free) (hblind : FrameBlind Pc) (hrc : rm.cells = mc) (hrs : rm.slots = ms)
    (hframes : rm.frames + 1 ≤ R.frames) (hlocals : W9 + (maxL + 11) + rm.locals ≤ R.locals)
    (hws : ∀ w ∈ ws, ∀ a' U, s.WarmedH U.vm → w.before a' U = true) (hcode : Cond.codeWith y bytes maxL ret hh ∈ ws) (hinit : ∀ a' U, s.WarmedH U.vm → (Cond.initialized y.cls).before a' U = true) :
    vx_Back l R p e below s sargs y len W9 (PreOf R mc ms Pc) (PostOf Qc mc ms free) (vx_Post XC mc ms free) := by
  intro m meth c A g ig mk a X hg hsize hdg hW hn hp
  have h1 : (headSpec ws rm).pre.before a A.U = true := atoms_intro fun w hw => hws w hw _ _ X.warmed
  have h2 : (Cond.codeWith y bytes maxL ret hh).before a A.U = true := hws _ hcode _ _ X.warmed
  have h3 : (Cond.initialized y.cls).before a A.U = true := hinit _ _ X.warmed
  have h4 : A.cells + (headSpec ws rm).room.cells ≤ R.cells := by rw [show (headSpec ws rm).room.cells = mc from hrc]; exact hp.1
  have h5 : A.slots + (headSpec ws rm).room.slots ≤ R.slots := by rw [show (headSpec ws rm).room.slots = ms from hrs]; exact hp.2.1
  have hPc : Pc a (A.U.calling g mk a) := hblind _ _ _ _ hp.2.2
  obtain ⟨U, Ls, c0, s0⟩ := A
  dsimp only [Pt.U, Pt.locs, Pt.cells, Pt.slots] at h1 h2 h3 h4 h5 X hn hPc ⊢
  obtain ⟨m9, methY, cY, hn9, hmY, hcY, -, hlY, -⟩ := Cond.codeWith_spec h2
  cases Option.some.inj (hn9.symm.trans hn)
  obtain ⟨kY, hkY, -⟩ := className_of_methodNamed hn
  have hinitY : kY.init = .initialized := Cond.initialized_spec (findClass_of_methodNamed hn) hkY h3
  have h : At U g.method c below := by rw [hg]; exact X.here
  have hlocals9 : W9 + (maxL + 11) + (headSpec ws rm).room.locals ≤ R.locals := hlocals
  have happ : (headSpec ws rm).appliesLoose y e.platform (U.calling g mk a) = true :=
    Spec.appliesLoose_calling (g := g) h hdg hn hkY hinitY
      (X.room_calling (g := g) (R' := (headSpec ws rm).room) hsize hmY hcY hframes (by rw [hlY]; omega) h4 h5) h1
  obtain ⟨mid, hmid⟩ := h.above
  have hfr : (U.setTop g).frames = (.java g :: mid) ++ below := by rw [State.frames_setTop' g h.top, hmid]; rfl
  obtain ⟨o, s₂, hsteps, -, hend, hq⟩ := Steps.callFree hM p X.admits X.cas X.clock (acts := []) hfr happ hPc trivial
  have hq' : vx_Q Qc XC mc ms free a (U.calling g mk a) o s₂ := hq
  rw [State.frames_setTop' g h.top] at hend
  obtain ⟨g₀, hg0⟩ := Option.isSome_iff_exists.mp h.top
  obtain ⟨r, hr⟩ := State.topJava?_eq_some.mp hg0
  have hr' : (({ U with heap := s₂.heap, slotsUsed := s₂.slotsUsed } : State).setVm s₂.vm).frames = .java g₀ :: r := hr
  rcases hq' with ⟨hqc, L, hfe, hL⟩ | ⟨q, rfl, E, ce, L, hx, hce, hcv, hcl, hW₂, hsm, hL⟩
  · obtain ⟨⟨v, rfl⟩, hW₂, e2, q2, q3, q4, q5, q6⟩ := id hfe
    have e3 : s₂ = ({ (U.calling g mk a).setFrames s₂.frames with heap := s₂.heap, slotsUsed := s₂.slotsUsed } : State).setVm s₂.vm := by
      have : s₂ = ({ s₂ with vm := (U.calling g mk a).vm } : State).setVm s₂.vm := rfl
      rw [e2] at this
      exact this
    obtain ⟨c₂, i₂, len₂, hc₂, hd₂, hf₂⟩ := hend
    have hW' : U.WarmedH s₂.vm := hW₂
    have hcc : c₂ = c := by
      have h1 : s₂.code? g.method = U.code? g.method := by
        rw [State.code?_eq, State.code?_eq, hW'.alike.method?]
      exact Option.some.inj (hc₂.symm.trans (h1.trans h.code))
    subst hcc
    have hlen : len₂ = len := by rw [hdg] at hd₂; cases hd₂; rfl
    subst hlen
    have hs₂ : s₂ = (({ U with heap := s₂.heap, slotsUsed := s₂.slotsUsed } : State).setVm s₂.vm).setTop { g with pc := g.pc + len₂, stack := v.toList ++ g.stack } := by
      refine e3.trans ?_
      rw [hf₂, State.calling_eq h.top, State.setFrames_setFrames, State.setTop_of_frames _ hr', hr]
      rfl
    have hsame : U.sameButNew ({ U with heap := s₂.heap, slotsUsed := s₂.slotsUsed } : State) L mc ms := by
      refine ⟨?_, q2, q3, q4, q5, q6⟩
      obtain ⟨t, ht, -⟩ := State.frames_cons hr
      show ({ U with heap := s₂.heap, slotsUsed := s₂.slotsUsed } : State) = { U.setFrames U.frames with heap := s₂.heap, slotsUsed := s₂.slotsUsed }
      rw [State.setFrames_self ht]
    subst hg
    refine Or.inl ⟨v, ⟨(({ U with heap := s₂.heap, slotsUsed := s₂.slotsUsed } : State).setVm s₂.vm), Ls ++ L, c0 + mc, s0 + ms⟩,
      ⟨X.admits, X.cas, X.clock, X.frames, X.room, X.hears, X.method, X.code, (X.here.setHeapUsed s₂.heap s₂.slotsUsed).setVm hW'.alike, X.tail, State.WarmedH.trans X.warmed hW', X.limits, X.bytes, X.same.trans (hsame.setVm s.vm)⟩,
      ⟨g, mk, s₂, L, rfl, rfl, hqc, rfl, hL, rfl, rfl⟩, ?_⟩
    show Steps p.tables e below _ ((({ U with heap := s₂.heap, slotsUsed := s₂.slotsUsed } : State).setVm s₂.vm).setTop { g with pc := g.pc + len₂, stack := v.toList ++ g.stack })
    rw [← hs₂]
    exact hsteps
  · obtain ⟨e2, q2, q3, q4, q5, q6⟩ := id hsm
    have e3 : s₂ = ({ (U.calling g mk a).setFrames s₂.frames with heap := s₂.heap, slotsUsed := s₂.slotsUsed } : State).setVm s₂.vm := by
      have : s₂ = ({ s₂ with vm := (U.calling g mk a).vm } : State).setVm s₂.vm := rfl
      rw [e2] at this
      exact this
    have hf₂ : s₂.frames = .throwing q :: .java g :: U.frames.tail := hend
    have hW' : U.WarmedH s₂.vm := hW₂
    have hs₂ : s₂ = ((({ U with heap := s₂.heap, slotsUsed := s₂.slotsUsed } : State).setVm s₂.vm).setTop g).pushFrame (.throwing q) := by
      refine e3.trans ?_
      rw [hf₂, State.calling_eq h.top, State.setFrames_setFrames, State.pushFrame, State.frames_setTop _ hr', State.setTop_of_frames _ hr', State.setFrames_setFrames, hr]
      rfl
    have hsame : U.sameButNew ({ U with heap := s₂.heap, slotsUsed := s₂.slotsUsed } : State) L mc ms := by
      refine ⟨?_, q2, q3, q4, q5, q6⟩
      obtain ⟨t, ht, -⟩ := State.frames_cons hr
      show ({ U with heap := s₂.heap, slotsUsed := s₂.slotsUsed } : State) = { U.setFrames U.frames with heap := s₂.heap, slotsUsed := s₂.slotsUsed }
      rw [State.setFrames_self ht]
    subst hg
    refine Or.inr ⟨q, ⟨(({ U with heap := s₂.heap, slotsUsed := s₂.slotsUsed } : State).setVm s₂.vm), Ls ++ L, c0 + mc, s0 + ms⟩,
      ⟨X.admits, X.cas, X.clock, X.frames, X.room, X.hears, X.method, X.code, (X.here.setHeapUsed s₂.heap s₂.slotsUsed).setVm hW'.alike, X.tail, State.WarmedH.trans X.warmed hW', X.limits, X.bytes, X.same.trans (hsame.setVm s.vm)⟩,
      ⟨g, mk, s₂, L, E, ce, rfl, rfl, hx, hce, hcv, hcl, rfl, hL, rfl, rfl⟩, ?_⟩
    show Steps p.tables e below _ (((({ U with heap := s₂.heap, slotsUsed := s₂.slotsUsed } : State).setVm s₂.vm).setTop g).pushFrame (.throwing q))
    rw [← hs₂]
    exact hsteps
end
variable {p : Program} {l : Launch} {e : Env} {R : Room} {s : State} {m : MethodId} {args : Array Value} {below : List Frame} {meth : Method} {c : Code} {T : State} {H : Heap} {locs : List Loc} {cells slots : Nat}
theorem vx_callVX (X : Stand p l e R s m args below meth c T locs cells slots) (hexec : p.tables.exec = Jvm.exec) {own C : String} {index : Nat} {y : MethodName} {bytes : ByteArray} {maxL : Nat} {ret : Option FieldType} {hh : List (Nat × Nat × Nat × Nat)}
    (hown : s.vm.findClass own = some m.cls) (hlink : (Cond.methodLink own index y).before args s = true) (hinst : (Cond.instanceMethod y).before args s = true) (hsel : (Cond.selects C y y).before args s = true)
    (hcode : (Cond.codeWith y bytes maxL ret hh).before args s = true) (hy : y.cls ≠ "java/lang/invoke/MethodHandle" ∧ y.cls ≠ "java/lang/invoke/VarHandle")
    {W9 : Nat} {Pre : Pt → Array Value → Prop} {Post : Pt → Array Value → Option Value → Pt → Prop} {PostX : Pt → Array Value → Addr → Pt → Prop} (hK : vx_Back l R p e below s args y 3 W9 Pre Post PostX)
    {b : Addr} {cellB : Cell} (hcell : T.heap[b]? = some cellB) (hobj : cellB.vm.isStatics = false) (hcls : s.vm.findClass C = some cellB.cls)
    {g : JFrame} (hg : g.method = m) (hsize : g.locals.size = c.maxLocals) {argsL rest : List Value} (hlen : ∀ sig, parseMethodDescriptor y.desc = some sig → argsL.length = sig.parameters.length)
    (hstack : g.stack = argsL.reverse ++ .ref b :: rest) (hW : 2 * g.monitorRoom + (rest.map fun v => v.category).sum ≤ W9) (hdg : decode c.code g.pc = .ok (.invokevirtual index, 3))
    (hpre : ∀ vm₁, s.WarmedH vm₁ → Pre ⟨T.setVm vm₁, locs, cells, slots⟩ (Value.ref b :: argsL).toArray) :
    (∃ (v : Option Value) (vm₁ : Vm) (B : Pt), s.WarmedH vm₁ ∧ Stand p l e R s m args below meth c B.U B.locs B.cells B.slots ∧ Post ⟨T.setVm vm₁, locs, cells, slots⟩ (Value.ref b :: argsL).toArray v B ∧
      ∀ target, Steps p.tables e below (B.U.setTop { g with pc := g.pc + 3, stack := v.toList ++ rest }) target → Steps p.tables e below (T.setTop g) target) ∨
    (∃ (q : Addr) (vm₁ : Vm) (B : Pt), s.WarmedH vm₁ ∧ Stand p l e R s m args below meth c B.U B.locs B.cells B.slots ∧ PostX ⟨T.setVm vm₁, locs, cells, slots⟩ (Value.ref b :: argsL).toArray q B ∧
      Steps p.tables e below (T.setTop g) ((B.U.setTop { g with stack := rest }).pushFrame (.throwing q))) := by
  obtain ⟨mk, methM, hnamed, hmethM, hstM, habM⟩ := Cond.instanceMethod_spec hinst
  obtain ⟨m8, methM', cM, hn8, hmethM', -, -, -, -, -, -, hsigM⟩ := Cond.codeWith_spec hcode
  cases Option.some.inj (hn8.symm.trans hnamed)
  cases hmethM.symm.trans hmethM'
  obtain ⟨c2, r2, m2, q1, q2, q3, q4, kP, hkP, hkPi⟩ := Cond.selects_spec hsel
  cases hcls.symm.trans q1
  cases (State.methodFound?_of_named hnamed hy).symm.trans q2
  cases hnamed.symm.trans q3
  have hselP : selectMethod e.platform s.vm cellB.cls mk = .method mk := by rw [Launch.admits_selectMethod X.admits]; exact q4
  obtain ⟨vm₁, X₁, hstep₁⟩ := X.invokevirtual hexec hown hlink hnamed hmethM hstM hkP hkPi hy (a := b) (cell := cellB) hcell
    (fun z h => by rw [h] at hobj; cases hobj) hselP hmethM habM hkP hkPi (g := g) hg (argsL := argsL) (rest := rest) (hlen _ hsigM) hstack hdg
  rcases hK m meth c ⟨T.setVm vm₁, locs, cells, slots⟩ { g with stack := rest } (.invokevirtual index) mk (Value.ref b :: argsL).toArray X₁ hg hsize hdg hW (X₁.named hnamed) (hpre vm₁ X₁.warmed) with ⟨v, B, X', hpost, hsteps⟩ | ⟨q, B, X', hpost, hsteps⟩
  · exact Or.inl ⟨v, vm₁, B, X₁.warmed, X', hpost, fun target h => hstep₁ _ fun acts => by rw [doInvoke_state]; exact hsteps.trans h⟩
  · exact Or.inr ⟨q, vm₁, B, X₁.warmed, X', hpost, hstep₁ _ fun acts => by rw [doInvoke_state]; exact hsteps⟩
theorem vx_callSX (X : Stand p l e R s m args below meth c T locs cells slots) (hexec : p.tables.exec = Jvm.exec) {own : String} {index : Nat} {y : MethodName} {bytes : ByteArray} {maxL : Nat} {ret : Option FieldType} {hh : List (Nat × Nat × Nat × Nat)}
    (hown : s.vm.findClass own = some m.cls) (hlink : (Cond.methodLink own index y).before args s = true) (hstat : (Cond.static y).before args s = true) (hinit : (Cond.initialized y.cls).before args s = true)
    (hcode : (Cond.codeWith y bytes maxL ret hh).before args s = true) (hy : y.cls ≠ "java/lang/invoke/MethodHandle" ∧ y.cls ≠ "java/lang/invoke/VarHandle")
    {W9 : Nat} {Pre : Pt → Array Value → Prop} {Post : Pt → Array Value → Option Value → Pt → Prop} {PostX : Pt → Array Value → Addr → Pt → Prop} (hK : vx_Back l R p e below s args y 3 W9 Pre Post PostX)
    {g : JFrame} (hg : g.method = m) (hsize : g.locals.size = c.maxLocals) {argsL rest : List Value} (hlen : ∀ sig, parseMethodDescriptor y.desc = some sig → argsL.length = sig.parameters.length)
    (hstack : g.stack = argsL.reverse ++ rest) (hW : 2 * g.monitorRoom + (rest.map fun v => v.category).sum ≤ W9) (hdg : decode c.code g.pc = .ok (.invokestatic index, 3))
    (hpre : ∀ vm₁, s.WarmedH vm₁ → Pre ⟨T.setVm vm₁, locs, cells, slots⟩ argsL.toArray) :
    (∃ (v : Option Value) (vm₁ : Vm) (B : Pt), s.WarmedH vm₁ ∧ Stand p l e R s m args below meth c B.U B.locs B.cells B.slots ∧ Post ⟨T.setVm vm₁, locs, cells, slots⟩ argsL.toArray v B ∧
      ∀ target, Steps p.tables e below (B.U.setTop { g with pc := g.pc + 3, stack := v.toList ++ rest }) target → Steps p.tables e below (T.setTop g) target) ∨
    (∃ (q : Addr) (vm₁ : Vm) (B : Pt), s.WarmedH vm₁ ∧ Stand p l e R s m args below meth c B.U B.locs B.cells B.slots ∧ PostX ⟨T.setVm vm₁, locs, cells, slots⟩ argsL.toArray q B ∧
      Steps p.tables e below (T.setTop g) ((B.U.setTop { g with stack := rest }).pushFrame (.throwing q))) := by
  obtain ⟨mk, methM, cM, hnamed, hmethM, -, -, -, -, -, -, hsigM⟩ := Cond.codeWith_spec hcode
  have hstatic : methM.isStatic = true := Cond.static_spec hnamed hmethM hstat
  obtain ⟨kP, hkP, -⟩ := className_of_methodNamed hnamed
  have hinitP : kP.init = .initialized := Cond.initialized_spec (findClass_of_methodNamed hnamed) hkP hinit
  obtain ⟨vm₁, X₁, hstep₁⟩ := X.invokestatic hexec hown hlink hnamed hmethM hstatic hkP hinitP hy (g := g) hg (argsL := argsL) (rest := rest) (hlen _ hsigM) hstack hdg
  rcases hK m meth c ⟨T.setVm vm₁, locs, cells, slots⟩ { g with stack := rest } (.invokestatic index) mk argsL.toArray X₁ hg hsize hdg hW (X₁.named hnamed) (hpre vm₁ X₁.warmed) with ⟨v, B, X', hpost, hsteps⟩ | ⟨q, B, X', hpost, hsteps⟩
  · exact Or.inl ⟨v, vm₁, B, X₁.warmed, X', hpost, fun target h => hstep₁ _ fun acts => by rw [doInvoke_state]; exact hsteps.trans h⟩
  · exact Or.inr ⟨q, vm₁, B, X₁.warmed, X', hpost, hstep₁ _ fun acts => by rw [doInvoke_state]; exact hsteps⟩
theorem vx_callVW (X : Stand p l e R s m args below meth c T locs cells slots) (hexec : p.tables.exec = Jvm.exec) {own C : String} {index : Nat} {y : MethodName} {bytes : ByteArray} {maxL : Nat} {ret : Option FieldType} {hh : List (Nat × Nat × Nat × Nat)}
    (hown : s.vm.findClass own = some m.cls) (hlink : (Cond.methodLink own index y).before args s = true) (hinst : (Cond.instanceMethod y).before args s = true) (hsel : (Cond.selects C y y).before args s = true)
    (hcode : (Cond.codeWith y bytes maxL ret hh).before args s = true) (hy : y.cls ≠ "java/lang/invoke/MethodHandle" ∧ y.cls ≠ "java/lang/invoke/VarHandle")
    {W9 : Nat} {Pre : Pt → Array Value → Prop} {Post : Pt → Array Value → Option Value → Pt → Prop} (hK : Back l R p e below s args y 3 W9 Pre Post)
    {b : Addr} {cellB : Cell} (hcell : T.heap[b]? = some cellB) (hobj : cellB.vm.isStatics = false) (hcls : s.vm.findClass C = some cellB.cls)
    {g : JFrame} (hg : g.method = m) (hsize : g.locals.size = c.maxLocals) {argsL rest : List Value} (hlen : ∀ sig, parseMethodDescriptor y.desc = some sig → argsL.length = sig.parameters.length)
    (hstack : g.stack = argsL.reverse ++ .ref b :: rest) (hW : 2 * g.monitorRoom + (rest.map fun v => v.category).sum ≤ W9) (hdg : decode c.code g.pc = .ok (.invokevirtual index, 3))
    (hpre : ∀ vm₁, s.WarmedH vm₁ → Pre ⟨T.setVm vm₁, locs, cells, slots⟩ (Value.ref b :: argsL).toArray) :
    ∃ (v : Option Value) (vm₁ : Vm) (B : Pt), s.WarmedH vm₁ ∧ Stand p l e R s m args below meth c B.U B.locs B.cells B.slots ∧ Post ⟨T.setVm vm₁, locs, cells, slots⟩ (Value.ref b :: argsL).toArray v B ∧
      ∀ target, Steps p.tables e below (B.U.setTop { g with pc := g.pc + 3, stack := v.toList ++ rest }) target → Steps p.tables e below (T.setTop g) target := by
  obtain ⟨mk, methM, hnamed, hmethM, hstM, habM⟩ := Cond.instanceMethod_spec hinst
  obtain ⟨m8, methM', cM, hn8, hmethM', -, -, -, -, -, -, hsigM⟩ := Cond.codeWith_spec hcode
  cases Option.some.inj (hn8.symm.trans hnamed)
  cases hmethM.symm.trans hmethM'
  obtain ⟨c2, r2, m2, q1, q2, q3, q4, kP, hkP, hkPi⟩ := Cond.selects_spec hsel
  cases hcls.symm.trans q1
  cases (State.methodFound?_of_named hnamed hy).symm.trans q2
  cases hnamed.symm.trans q3
  have hselP : selectMethod e.platform s.vm cellB.cls mk = .method mk := by rw [Launch.admits_selectMethod X.admits]; exact q4
  obtain ⟨vm₁, X₁, hstep₁⟩ := X.invokevirtual hexec hown hlink hnamed hmethM hstM hkP hkPi hy (a := b) (cell := cellB) hcell
    (fun z h => by rw [h] at hobj; cases hobj) hselP hmethM habM hkP hkPi (g := g) hg (argsL := argsL) (rest := rest) (hlen _ hsigM) hstack hdg
  obtain ⟨v, B, X', hpost, hsteps⟩ := hK m meth c ⟨T.setVm vm₁, locs, cells, slots⟩ { g with stack := rest } (.invokevirtual index) mk (Value.ref b :: argsL).toArray X₁ hg hsize hdg hW (X₁.named hnamed) (hpre vm₁ X₁.warmed)
  exact ⟨v, vm₁, B, X₁.warmed, X', hpost, fun target h => hstep₁ _ fun acts => by rw [doInvoke_state]; exact hsteps.trans h⟩
abbrev vx_CVW (R : Room) (s : State) (args : Array Value) (own C : String) (index : Nat) (y : MethodName) (bytes : ByteArray) (maxL : Nat) (ret : Option FieldType) (hh : List (Nat × Nat × Nat × Nat)) (ws : List Cond) (rm : Room) (mc ms n : Nat) : Prop :=
  (rm.cells = mc ∧ rm.slots = ms ∧ rm.frames + 1 ≤ R.frames ∧ 8 + (maxL + 11) + rm.locals ≤ R.locals ∧ (∀ w ∈ ws, ∀ (a' : Array Value) (U : State), s.WarmedH U.vm → w.before a' U = true) ∧ Cond.codeWith y bytes maxL ret hh ∈ ws) ∧
  (Cond.codeWith y bytes maxL ret hh).before args s = true ∧ (Cond.initialized y.cls).before args s = true ∧ (y.cls ≠ "java/lang/invoke/MethodHandle" ∧ y.cls ≠ "java/lang/invoke/VarHandle") ∧
  (∀ sig, parseMethodDescriptor y.desc = some sig → n = sig.parameters.length) ∧ (Cond.methodLink own index y).before args s = true ∧ (Cond.instanceMethod y).before args s = true ∧ (Cond.selects C y y).before args s = true
theorem vx_cwVW {own C : String} {index maxL mc ms : Nat} {y : MethodName} {bytes : ByteArray} {ret : Option FieldType} {hh : List (Nat × Nat × Nat × Nat)} {Ts ws ws' : List Cond} {rm : Room} (n : Nat) (ht : ∀ w ∈ Ts, w.before args s = true) (hT : GoodIn Ts (wsV own index C y ws)) (hw : ws = Cond.codeWith y bytes maxL ret hh :: ws') (hrc : rm.cells = mc) (hrs : rm.slots = ms)
    (hd : y.cls = C ∧ y.cls ≠ "java/lang/invoke/MethodHandle" ∧ y.cls ≠ "java/lang/invoke/VarHandle" ∧ (parseMethodDescriptor y.desc).map (fun d => d.parameters.length) = some n) (hR : rm.frames + 1 ≤ R.frames ∧ 8 + (maxL + 11) + rm.locals ≤ R.locals) :
    vx_CVW R s args own C index y bytes maxL ret hh ws rm mc ms n := by
  obtain ⟨hC, hd⟩ := hd
  subst hC
  have ok : ∀ w ∈ wsV own index y.cls y ws, w.before args s = true := fun w h => ht w (hT w h).1
  have hG : GoodIn Ts ws := fun w h => hT w (by unfold wsV; exact List.mem_append_right _ h)
  have hc : Cond.codeWith y bytes maxL ret hh ∈ ws := by rw [hw]; exact List.mem_cons_self
  refine ⟨⟨hrc, hrs, hR.1, hR.2, pay_in ht hG, hc⟩, ht _ (hG _ hc).1, ok _ (by simp [wsV]), ⟨hd.1, hd.2.1⟩, fun sig h => ?_, ok _ (by simp [wsV]), ok _ (by simp [wsV]), ok _ (by simp [wsV])⟩
  have h2 := hd.2.2
  rw [h] at h2
  exact (Option.some.inj h2).symm
theorem vx_runVW {y : MethodName} {bytes cc : ByteArray} {maxL nL mc ms n index : Nat} {ret : Option FieldType} {hh : List (Nat × Nat × Nat × Nat)} {ws : List Cond} {rm : Room} {Pc : Array Value → State → Prop} {Qc : Array Value → State → Outcome → State → Prop} {free : Addr → Prop} {Ts : List Cond} {own C : String} {b : Addr} {As rest : List Value} {g : JFrame}
    (S : CallFix p m c cc nL s args Ts own) (hM : Met l y ws rm Pc Qc mc ms free) (cw : vx_CVW R s args own C index y bytes maxL ret hh ws rm mc ms n) (hp : PreV s H C b Pc As)
    (hg : g.method = m) (hn : As.length = n) (hsize : g.locals.size = nL) (hstack : g.stack = As.reverse ++ .ref b :: rest) (hW : 2 * g.monitorRoom + (rest.map fun v => v.category).sum ≤ 8) (hdg : decode cc g.pc = .ok (.invokevirtual index, 3)) (hf : cells + mc ≤ R.cells ∧ slots + ms ≤ R.slots) :
    va_Run p l e R s m args below meth c H locs cells slots mc ms g rest (Qc (Value.ref b :: As).toArray) free := by
  obtain ⟨⟨hrc, hrs, hfr, hlo, hws, hcw⟩, hcode, hini, hy, hlen, hl, hin, hse⟩ := cw
  have hK : Back l R p e below s args y 3 8 (PreOf R mc ms Pc) (PostOf Qc mc ms free) := va_backW (hh := hh) (bytes := bytes) (maxL := maxL) (ret := ret) hM hp.1 hrc hrs hfr hlo hws hcw (fun a' U hW => word_at hW (Or.inl (by first | rfl | simp [Cond.onTables, Cond.keeps, Cond.steady])) hini)
  obtain ⟨hx, hb, hml, ho, -⟩ := S
  obtain ⟨-, ⟨cellB, hcB, hoB, hclB⟩, hPc⟩ := hp
  intro T hT X
  obtain ⟨v, vm₁, ⟨U', l2, c2, s2⟩, hW₁, X', ⟨g', mk, t, L, e1, e2, hq, h1, hL, h2, h3⟩, st⟩ := vx_callVW X hx (C := C) (hh := hh) (bytes := bytes) (maxL := maxL) (ret := ret) ho hl hin hse hcode hy hK (by rw [hT]; exact hcB) hoB hclB hg (hsize.trans hml.symm) (argsL := As) (rest := rest) (fun sig h => hn.trans (hlen sig h)) hstack hW (by rw [hb]; exact hdg)
    (fun vm₁ hW₁ => ⟨hf.1, hf.2, hPc (T.setVm vm₁) hT hW₁⟩)
  dsimp only [Pt.U, Pt.locs, Pt.cells, Pt.slots] at X' e1 e2 h1 h2 h3 st
  subst h1; subst h2; subst h3
  exact ⟨v, (T.setVm vm₁).calling g' mk (Value.ref b :: As).toArray, t, U', L, hT, X', hL, e1, e2, hq, st⟩
section
variable {y : MethodName} {bytes cc : ByteArray} {maxL nL mc ms n index : Nat} {ret : Option FieldType} {ws : List Cond} {rm : Room} {Pc : Array Value → State → Prop} {Qc : Array Value → State → Outcome → State → Prop} {XC : String → State → State → Prop} {free : Addr → Prop} {Ts : List Cond} {own C : String} {b : Addr} {As rest : List Value} {g : JFrame}
theorem vx_runVX {hh : List (Nat × Nat × Nat × Nat)} (S : CallFix p m c cc nL s args Ts own) (hM : vx_Met l y ws rm Pc Qc XC mc ms free) (cw : vx_CVW R s args own C index y bytes maxL ret hh ws rm mc ms n) (hp : PreV s H C b Pc As)
    (hg : g.method = m) (hn : As.length = n) (hsize : g.locals.size = nL) (hstack : g.stack = As.reverse ++ .ref b :: rest) (hW : 2 * g.monitorRoom + (rest.map fun v => v.category).sum ≤ 8) (hdg : decode cc g.pc = .ok (.invokevirtual index, 3)) (hf : cells + mc ≤ R.cells ∧ slots + ms ≤ R.slots) :
    vx_Run p l e R s m args below meth c H locs cells slots mc ms g rest (Qc (Value.ref b :: As).toArray) XC free := by
  obtain ⟨⟨hrc, hrs, hfr, hlo, hws, hcw⟩, hcode, hini, hy, hlen, hl, hin, hse⟩ := cw
  have hK : vx_Back l R p e below s args y 3 8 (PreOf R mc ms Pc) (PostOf Qc mc ms free) (vx_Post XC mc ms free) := vx_backW (hh := hh) (bytes := bytes) (maxL := maxL) (ret := ret) hM hp.1 hrc hrs hfr hlo hws hcw (fun a' U hW => word_at hW (Or.inl (by first | rfl | simp [Cond.onTables, Cond.keeps, Cond.steady])) hini)
  obtain ⟨hx, hb, hml, ho, -⟩ := S
  obtain ⟨-, ⟨cellB, hcB, hoB, hclB⟩, hPc⟩ := hp
  intro T hT X
  rcases vx_callVX X hx (C := C) (hh := hh) (bytes := bytes) (maxL := maxL) (ret := ret) ho hl hin hse hcode hy hK (by rw [hT]; exact hcB) hoB hclB hg (hsize.trans hml.symm) (argsL := As) (rest := rest) (fun sig h => hn.trans (hlen sig h)) hstack hW (by rw [hb]; exact hdg)
    (fun vm₁ hW₁ => ⟨hf.1, hf.2, hPc (T.setVm vm₁) hT hW₁⟩) with ⟨v, vm₁, ⟨U', l2, c2, s2⟩, hW₁, X', ⟨g', mk, t, L, e1, e2, hq, h1, hL, h2, h3⟩, st⟩ | ⟨q, vm₁, ⟨U', l2, c2, s2⟩, hW₁, X', ⟨g', mk, t, L, E, ce, e1, e2, hq, hce, hcv, hcl, h1, hL, h2, h3⟩, st⟩
  · dsimp only [Pt.U, Pt.locs, Pt.cells, Pt.slots] at X' e1 e2 h1 h2 h3 st
    subst h1; subst h2; subst h3
    exact Or.inl ⟨v, (T.setVm vm₁).calling g' mk (Value.ref b :: As).toArray, t, U', L, hT, X', hL, e1, e2, hq, st⟩
  · dsimp only [Pt.U, Pt.locs, Pt.cells, Pt.slots] at X' e1 e2 h1 h2 h3 st hcl
    subst h1; subst h2; subst h3
    exact Or.inr ⟨q, (T.setVm vm₁).calling g' mk (Value.ref b :: As).toArray, t, U', L, E, ce, hT, X', hL, e1, e2, hq, hce, hcv, vx_cls hW₁ hcl, st⟩
theorem vx_runSX {hh : List (Nat × Nat × Nat × Nat)} (S : CallFix p m c cc nL s args Ts own) (hM : vx_Met l y ws rm Pc Qc XC mc ms free) (cw : vx_CSW R s args own index y bytes maxL ret hh ws rm mc ms n) (hp : PreS s H Pc As)
    (hg : g.method = m) (hn : As.length = n) (hsize : g.locals.size = nL) (hstack : g.stack = As.reverse ++ rest) (hW : 2 * g.monitorRoom + (rest.map fun v => v.category).sum ≤ 8) (hdg : decode cc g.pc = .ok (.invokestatic index, 3)) (hf : cells + mc ≤ R.cells ∧ slots + ms ≤ R.slots) :
    vx_Run p l e R s m args below meth c H locs cells slots mc ms g rest (Qc As.toArray) XC free := by
  obtain ⟨⟨hrc, hrs, hfr, hlo, hws, hcw⟩, hcode, hini, hy, hlen, hl, hstt⟩ := cw
  have hK : vx_Back l R p e below s args y 3 8 (PreOf R mc ms Pc) (PostOf Qc mc ms free) (vx_Post XC mc ms free) := vx_backW (hh := hh) (bytes := bytes) (maxL := maxL) (ret := ret) hM hp.1 hrc hrs hfr hlo hws hcw (fun a' U hW => word_at hW (Or.inl (by first | rfl | simp [Cond.onTables, Cond.keeps, Cond.steady])) hini)
  obtain ⟨hx, hb, hml, ho, -⟩ := S
  intro T hT X
  rcases vx_callSX X hx (hh := hh) (bytes := bytes) (maxL := maxL) (ret := ret) ho hl hstt hini hcode hy hK hg (hsize.trans hml.symm) (argsL := As) (rest := rest) (fun sig h => hn.trans (hlen sig h)) hstack hW (by rw [hb]; exact hdg)
    (fun vm₁ hW₁ => ⟨hf.1, hf.2, hp.2 (T.setVm vm₁) hT hW₁⟩) with ⟨v, vm₁, ⟨U', l2, c2, s2⟩, hW₁, X', ⟨g', mk, t, L, e1, e2, hq, h1, hL, h2, h3⟩, st⟩ | ⟨q, vm₁, ⟨U', l2, c2, s2⟩, hW₁, X', ⟨g', mk, t, L, E, ce, e1, e2, hq, hce, hcv, hcl, h1, hL, h2, h3⟩, st⟩
  · dsimp only [Pt.U, Pt.locs, Pt.cells, Pt.slots] at X' e1 e2 h1 h2 h3 st
    subst h1; subst h2; subst h3
    exact Or.inl ⟨v, (T.setVm vm₁).calling g' mk As.toArray, t, U', L, hT, X', hL, e1, e2, hq, st⟩
  · dsimp only [Pt.U, Pt.locs, Pt.cells, Pt.slots] at X' e1 e2 h1 h2 h3 st hcl
    subst h1; subst h2; subst h3
    exact Or.inr ⟨q, (T.setVm vm₁).calling g' mk As.toArray, t, U', L, E, ce, hT, X', hL, e1, e2, hq, hce, hcv, vx_cls hW₁ hcl, st⟩
end
end VXH
theorem vx_ofWH {l : Launch} {y : MethodName} {ws ws' : List Cond} {rm : Room} {Pc : Array Value → State → Prop} {Qc : Array Value → State → Outcome → State → Prop} {XC : String → State → State → Prop} {mc ms : Nat} {free : Addr → Prop} {cc : ByteArray} {maxL : Nat} {ret : Option FieldType} {hh : List (Nat × Nat × Nat × Nat)}
    (hy : plainName y.cls = true) (hw : ws = Cond.codeWith y cc maxL ret hh :: ws')
    (body : ∀ p e s m args below meth c s₁, BodyLoose p l y (headSpec ws rm) cc maxL ret e s m args below meth c s₁ → c.maxLocals = maxL → Pc args s →
      W p l e (headSpec ws rm).room s m args below meth c s.heap [] 0 0 (vx_MQ below Qc XC args s mc ms free) (entryFrame m args maxL)) : vx_Met l y ws rm Pc Qc XC mc ms free := by
  refine MetFree.of_bodyS (code := cc) (maxLocals := maxL) (ret := ret) hy ?_ ?_
  · intro args s m h hn
    obtain ⟨m9, meth, c, hn9, h1, h2, h3, h4, -, h5, h6, -⟩ := Cond.codeWith_spec (atoms_spec (ws := ws) h _ (by rw [hw]; exact List.mem_cons_self))
    cases hn.symm.trans hn9
    exact ⟨meth, c, h1, h2, h3, h4, h5, h6⟩
  · intro p e s m args below meth c s₁ B hml hP _
    have hh0 : s₁.heap = s.heap := by rw [B.state]; rfl
    obtain ⟨t, a1, o, b1, b2, b3⟩ := body p e s m args below meth c s₁ B hml hP s₁ hh0 (Stand.of_body B)
    exact ⟨t, o, a1, b1, b2, b3⟩
/-! ===== END ===== -/
end
section
/-! ===== BEGIN printed: names, fields, word lists, decode rows ===== -/
def RX0 : String := "StockLines$Company"
def TX0 : u_T := fun k => match k with
  | 0 => ("StockLines$Company", "held", "[I", true)
  | 1 => ("StockLines$Company", "open", "Z", false)
  | 2 => ("StockLines$Company", "home", "I", false)
  | 3 => ("StockLines$Company", "cash", "I", false)
  | 4 => ("StockLines$Company", "step", "I", false)
  | 5 => ("StockLines$Company", "stops", "I", false)
  | 6 => ("StockLines$Company", "president", "I", false)
  | _ => ("StockLines$Company", "latest", "I", false)
def tyX0 : Nat → FieldType := fun k => match k with
  | 0 => .array .int
  | 1 => .boolean
  | 2 => .int
  | 3 => .int
  | 4 => .int
  | 5 => .int
  | 6 => .int
  | _ => .int
abbrev wsX00 : List Cond := u_ws RX0 TX0 8
theorem nmX0 : ∀ a, a < 8 → ∀ b, b < 8 → a ≠ b → (TX0 a).2.1 ≠ (TX0 b).2.1 := by decide +kernel
theorem tyX0_ok : ∀ k, k < 8 → parseFieldDescriptor (TX0 k).2.2.1 = some (tyX0 k) := by decide +kernel
abbrev cX0_init : ByteArray := prog_2_method_1_code
def yX0_init : MethodName := ⟨RX0, "<init>", "()V"⟩
abbrev cX0_priceAt : ByteArray := prog_2_method_2_code
def yX0_priceAt : MethodName := ⟨RX0, "priceAt", "(I)I"⟩
abbrev cX0_price : ByteArray := prog_2_method_3_code
def yX0_price : MethodName := ⟨RX0, "price", "()I"⟩
abbrev cX0_openAt : ByteArray := prog_2_method_4_code
def yX0_openAt : MethodName := ⟨RX0, "openAt", "(II)V"⟩
abbrev cX0_close : ByteArray := prog_2_method_5_code
def yX0_close : MethodName := ⟨RX0, "close", "()V"⟩
abbrev cX0_copyFrom : ByteArray := prog_2_method_6_code
def yX0_copyFrom : MethodName := ⟨RX0, "copyFrom", "(LStockLines$Company;)V"⟩
abbrev cX0_bankShares : ByteArray := prog_2_method_7_code
def yX0_bankShares : MethodName := ⟨RX0, "bankShares", "()I"⟩
abbrev cX0_exchangedShares : ByteArray := prog_2_method_8_code
def yX0_exchangedShares : MethodName := ⟨RX0, "exchangedShares", "()I"⟩
abbrev cX0_findPresident : ByteArray := prog_2_method_9_code
def yX0_findPresident : MethodName := ⟨RX0, "findPresident", "()V"⟩
abbrev cX0_rise : ByteArray := prog_2_method_10_code
def yX0_rise : MethodName := ⟨RX0, "rise", "()V"⟩
abbrev cX0_fall : ByteArray := prog_2_method_11_code
def yX0_fall : MethodName := ⟨RX0, "fall", "()V"⟩
abbrev cX0_number : ByteArray := prog_2_method_12_code
def yX0_number : MethodName := ⟨RX0, "number", "(I)I"⟩
def RX1 : String := "StockLines$Game"
def TX1 : u_T := fun k => match k with
  | 0 => ("StockLines$Game", "search", "LStockLines$RouteSearch;", true)
  | 1 => ("StockLines$Game", "land", "LStockLines$Land;", true)
  | 2 => ("StockLines$Game", "companies", "[LStockLines$Company;", true)
  | 3 => ("StockLines$Game", "cash", "[I", true)
  | 4 => ("StockLines$Game", "order", "[I", true)
  | 5 => ("StockLines$Game", "orderLength", "I", false)
  | 6 => ("StockLines$Game", "orderPlace", "I", false)
  | 7 => ("StockLines$Game", "extended", "Z", false)
  | 8 => ("StockLines$Game", "players", "I", false)
  | 9 => ("StockLines$Game", "turn", "I", false)
  | 10 => ("StockLines$Game", "passed", "I", false)
  | 11 => ("StockLines$Game", "operating", "Z", false)
  | 12 => ("StockLines$Game", "phasesOver", "I", false)
  | 13 => ("StockLines$Game", "bank", "I", false)
  | _ => ("StockLines$Game", "closed", "I", false)
def tyX1 : Nat → FieldType := fun k => match k with
  | 0 => .object "StockLines$RouteSearch"
  | 1 => .object "StockLines$Land"
  | 2 => .array (.object "StockLines$Company")
  | 3 => .array .int
  | 4 => .array .int
  | 5 => .int
  | 6 => .int
  | 7 => .boolean
  | 8 => .int
  | 9 => .int
  | 10 => .int
  | 11 => .boolean
  | 12 => .int
  | 13 => .int
  | _ => .int
abbrev wsX10 : List Cond := u_ws RX1 TX1 15
theorem nmX1 : ∀ a, a < 15 → ∀ b, b < 15 → a ≠ b → (TX1 a).2.1 ≠ (TX1 b).2.1 := by decide +kernel
theorem tyX1_ok : ∀ k, k < 15 → parseFieldDescriptor (TX1 k).2.2.1 = some (tyX1 k) := by decide +kernel
abbrev cX1_init : ByteArray := prog_3_method_1_code
def yX1_init : MethodName := ⟨RX1, "<init>", "(LStockLines$RouteSearch;)V"⟩
abbrev cX1_reset : ByteArray := prog_3_method_2_code
def yX1_reset : MethodName := ⟨RX1, "reset", "(I)V"⟩
abbrev cX1_copyFrom : ByteArray := prog_3_method_3_code
def yX1_copyFrom : MethodName := ⟨RX1, "copyFrom", "(LStockLines$Game;)V"⟩
abbrev cX1_canStart : ByteArray := prog_3_method_4_code
def yX1_canStart : MethodName := ⟨RX1, "canStart", "(II)Z"⟩
abbrev cX1_startCompany : ByteArray := prog_3_method_5_code
def yX1_startCompany : MethodName := ⟨RX1, "startCompany", "(III)V"⟩
abbrev cX1_canBuy : ByteArray := prog_3_method_6_code
def yX1_canBuy : MethodName := ⟨RX1, "canBuy", "(I)Z"⟩
abbrev cX1_buyShare : ByteArray := prog_3_method_7_code
def yX1_buyShare : MethodName := ⟨RX1, "buyShare", "(I)I"⟩
abbrev cX1_canSell : ByteArray := prog_3_method_8_code
def yX1_canSell : MethodName := ⟨RX1, "canSell", "(II)Z"⟩
abbrev cX1_sellShares : ByteArray := prog_3_method_9_code
def yX1_sellShares : MethodName := ⟨RX1, "sellShares", "(III)V"⟩
abbrev cX1_canMerge : ByteArray := prog_3_method_10_code
def yX1_canMerge : MethodName := ⟨RX1, "canMerge", "(II)Z"⟩
abbrev cX1_mergeCompanies : ByteArray := prog_3_method_11_code
def yX1_mergeCompanies : MethodName := ⟨RX1, "mergeCompanies", "(II)V"⟩
abbrev cX1_passTurn : ByteArray := prog_3_method_12_code
def yX1_passTurn : MethodName := ⟨RX1, "passTurn", "()V"⟩
abbrev cX1_endActiveTurn : ByteArray := prog_3_method_13_code
def yX1_endActiveTurn : MethodName := ⟨RX1, "endActiveTurn", "()V"⟩
abbrev cX1_nextTurn : ByteArray := prog_3_method_14_code
def yX1_nextTurn : MethodName := ⟨RX1, "nextTurn", "()V"⟩
abbrev cX1_playerPays : ByteArray := prog_3_method_15_code
def yX1_playerPays : MethodName := ⟨RX1, "playerPays", "(II)V"⟩
abbrev cX1_companyPays : ByteArray := prog_3_method_16_code
def yX1_companyPays : MethodName := ⟨RX1, "companyPays", "(LStockLines$Company;I)V"⟩
abbrev cX1_beginOperating : ByteArray := prog_3_method_17_code
def yX1_beginOperating : MethodName := ⟨RX1, "beginOperating", "()V"⟩
abbrev cX1_putInOrder : ByteArray := prog_3_method_18_code
def yX1_putInOrder : MethodName := ⟨RX1, "putInOrder", "(I)V"⟩
abbrev cX1_endOperatingIfOver : ByteArray := prog_3_method_19_code
def yX1_endOperatingIfOver : MethodName := ⟨RX1, "endOperatingIfOver", "()V"⟩
abbrev cX1_nextCompany : ByteArray := prog_3_method_20_code
def yX1_nextCompany : MethodName := ⟨RX1, "nextCompany", "()I"⟩
abbrev cX1_canExtend : ByteArray := prog_3_method_21_code
def yX1_canExtend : MethodName := ⟨RX1, "canExtend", "()Z"⟩
abbrev cX1_extendNext : ByteArray := prog_3_method_22_code
def yX1_extendNext : MethodName := ⟨RX1, "extendNext", "()I"⟩
abbrev cX1_canOperate : ByteArray := prog_3_method_23_code
def yX1_canOperate : MethodName := ⟨RX1, "canOperate", "(II)Z"⟩
abbrev cX1_canLay : ByteArray := prog_3_method_24_code
def yX1_canLay : MethodName := ⟨RX1, "canLay", "(LStockLines$Company;II)Z"⟩
abbrev cX1_operateNext : ByteArray := prog_3_method_25_code
def yX1_operateNext : MethodName := ⟨RX1, "operateNext", "(IIZ)I"⟩
abbrev cX1_payOut : ByteArray := prog_3_method_26_code
def yX1_payOut : MethodName := ⟨RX1, "payOut", "(LStockLines$Company;I)V"⟩
abbrev cX1_payUpkeep : ByteArray := prog_3_method_27_code
def yX1_payUpkeep : MethodName := ⟨RX1, "payUpkeep", "(LStockLines$Company;)V"⟩
abbrev cX1_payRest : ByteArray := prog_3_method_28_code
def yX1_payRest : MethodName := ⟨RX1, "payRest", "(II)I"⟩
abbrev cX1_cheapestHeld : ByteArray := prog_3_method_29_code
def yX1_cheapestHeld : MethodName := ⟨RX1, "cheapestHeld", "(I)I"⟩
abbrev cX1_incomeOf : ByteArray := prog_3_method_30_code
def yX1_incomeOf : MethodName := ⟨RX1, "incomeOf", "(LStockLines$Company;)I"⟩
abbrev cX1_incomeIfRaised : ByteArray := prog_3_method_31_code
def yX1_incomeIfRaised : MethodName := ⟨RX1, "incomeIfRaised", "(LStockLines$Company;II)I"⟩
abbrev cX1_bestTrackOf : ByteArray := prog_3_method_32_code
def yX1_bestTrackOf : MethodName := ⟨RX1, "bestTrackOf", "(LStockLines$Company;)I"⟩
abbrev cX1_routeTown : ByteArray := prog_3_method_33_code
def yX1_routeTown : MethodName := ⟨RX1, "routeTown", "(LStockLines$Company;I)I"⟩
abbrev cX1_worthOf : ByteArray := prog_3_method_34_code
def yX1_worthOf : MethodName := ⟨RX1, "worthOf", "(I)I"⟩
abbrev cX1_presidenciesOf : ByteArray := prog_3_method_35_code
def yX1_presidenciesOf : MethodName := ⟨RX1, "presidenciesOf", "(I)I"⟩
abbrev cX1_openCompanies : ByteArray := prog_3_method_36_code
def yX1_openCompanies : MethodName := ⟨RX1, "openCompanies", "()I"⟩
abbrev cX1_unsoldShares : ByteArray := prog_3_method_37_code
def yX1_unsoldShares : MethodName := ⟨RX1, "unsoldShares", "()I"⟩
abbrev cX1_number : ByteArray := prog_3_method_38_code
def yX1_number : MethodName := ⟨RX1, "number", "(I)I"⟩
def RX2 : String := "StockLines$Land"
def TX2 : u_T := fun k => match k with
  | 0 => ("StockLines$Land", "worth", "[I", true)
  | _ => ("StockLines$Land", "level", "[[I", true)
def tyX2 : Nat → FieldType := fun k => match k with
  | 0 => .array .int
  | _ => .array (.array .int)
abbrev wsX20 : List Cond := u_ws RX2 TX2 2
theorem nmX2 : ∀ a, a < 2 → ∀ b, b < 2 → a ≠ b → (TX2 a).2.1 ≠ (TX2 b).2.1 := by decide +kernel
theorem tyX2_ok : ∀ k, k < 2 → parseFieldDescriptor (TX2 k).2.2.1 = some (tyX2 k) := by decide +kernel
abbrev cX2_init : ByteArray := prog_4_method_1_code
def yX2_init : MethodName := ⟨RX2, "<init>", "()V"⟩
abbrev cX2_clearTracks : ByteArray := prog_4_method_2_code
def yX2_clearTracks : MethodName := ⟨RX2, "clearTracks", "()V"⟩
abbrev cX2_copyFrom : ByteArray := prog_4_method_3_code
def yX2_copyFrom : MethodName := ⟨RX2, "copyFrom", "(LStockLines$Land;)V"⟩
abbrev cX2_setLevel : ByteArray := prog_4_method_4_code
def yX2_setLevel : MethodName := ⟨RX2, "setLevel", "(III)V"⟩
abbrev cX2_tracks : ByteArray := prog_4_method_5_code
def yX2_tracks : MethodName := ⟨RX2, "tracks", "()I"⟩
def RX3 : String := "StockLines$RouteSearch"
def TX3 : u_T := fun k => match k with
  | 0 => ("StockLines$RouteSearch", "distance", "[I", true)
  | 1 => ("StockLines$RouteSearch", "row", "[I", true)
  | 2 => ("StockLines$RouteSearch", "best", "[I", true)
  | 3 => ("StockLines$RouteSearch", "land", "LStockLines$Land;", false)
  | 4 => ("StockLines$RouteSearch", "homeBit", "I", false)
  | 5 => ("StockLines$RouteSearch", "stops", "I", false)
  | 6 => ("StockLines$RouteSearch", "bestLength", "I", false)
  | _ => ("StockLines$RouteSearch", "bestIncome", "I", false)
def tyX3 : Nat → FieldType := fun k => match k with
  | 0 => .array .int
  | 1 => .array .int
  | 2 => .array .int
  | 3 => .object "StockLines$Land"
  | 4 => .int
  | 5 => .int
  | 6 => .int
  | _ => .int
abbrev wsX30 : List Cond := u_ws RX3 TX3 8
theorem nmX3 : ∀ a, a < 8 → ∀ b, b < 8 → a ≠ b → (TX3 a).2.1 ≠ (TX3 b).2.1 := by decide +kernel
theorem tyX3_ok : ∀ k, k < 8 → parseFieldDescriptor (TX3 k).2.2.1 = some (tyX3 k) := by decide +kernel
abbrev cX3_init : ByteArray := prog_5_method_1_code
def yX3_init : MethodName := ⟨RX3, "<init>", "()V"⟩
abbrev cX3_measure : ByteArray := prog_5_method_2_code
def yX3_measure : MethodName := ⟨RX3, "measure", "(LStockLines$Land;I)V"⟩
abbrev cX3_markNeighbours : ByteArray := prog_5_method_3_code
def yX3_markNeighbours : MethodName := ⟨RX3, "markNeighbours", "([II)Z"⟩
abbrev cX3_reached : ByteArray := prog_5_method_4_code
def yX3_reached : MethodName := ⟨RX3, "reached", "(I)Z"⟩
abbrev cX3_find : ByteArray := prog_5_method_5_code
def yX3_find : MethodName := ⟨RX3, "find", "(LStockLines$Land;II)V"⟩
abbrev cX3_income : ByteArray := prog_5_method_6_code
def yX3_income : MethodName := ⟨RX3, "income", "()I"⟩
abbrev cX3_routeTown : ByteArray := prog_5_method_7_code
def yX3_routeTown : MethodName := ⟨RX3, "routeTown", "(I)I"⟩
abbrev cX3_grow : ByteArray := prog_5_method_8_code
def yX3_grow : MethodName := ⟨RX3, "grow", "(LStockLines$RouteSearch;IIII)V"⟩
abbrev cX3_keep : ByteArray := prog_5_method_9_code
def yX3_keep : MethodName := ⟨RX3, "keep", "(II)V"⟩
def RX4 : String := "StockLines$Script"
def TX4 : u_T := fun k => match k with
  | 0 => ("StockLines$Script", "signs", "[I", true)
  | _ => ("StockLines$Script", "length", "I", false)
def tyX4 : Nat → FieldType := fun k => match k with
  | 0 => .array .int
  | _ => .int
abbrev wsX40 : List Cond := u_ws RX4 TX4 2
theorem nmX4 : ∀ a, a < 2 → ∀ b, b < 2 → a ≠ b → (TX4 a).2.1 ≠ (TX4 b).2.1 := by decide +kernel
theorem tyX4_ok : ∀ k, k < 2 → parseFieldDescriptor (TX4 k).2.2.1 = some (tyX4 k) := by decide +kernel
abbrev cX4_init : ByteArray := prog_6_method_1_code
def yX4_init : MethodName := ⟨RX4, "<init>", "()V"⟩
abbrev cX4_add : ByteArray := prog_6_method_2_code
def yX4_add : MethodName := ⟨RX4, "add", "(I)V"⟩
abbrev cX4_sign : ByteArray := prog_6_method_3_code
def yX4_sign : MethodName := ⟨RX4, "sign", "(I)I"⟩
abbrev cX4_digit : ByteArray := prog_6_method_4_code
def yX4_digit : MethodName := ⟨RX4, "digit", "(I)I"⟩
abbrev cX4_nextMove : ByteArray := prog_6_method_5_code
def yX4_nextMove : MethodName := ⟨RX4, "nextMove", "(I)I"⟩
abbrev cX4_errorPosition : ByteArray := prog_6_method_6_code
def yX4_errorPosition : MethodName := ⟨RX4, "errorPosition", "()I"⟩
abbrev cX4_isDigit : ByteArray := prog_6_method_7_code
def yX4_isDigit : MethodName := ⟨RX4, "isDigit", "(III)Z"⟩
abbrev cX4_behind : ByteArray := prog_6_method_8_code
def yX4_behind : MethodName := ⟨RX4, "behind", "(III)I"⟩
abbrev cX4_behindMoveSign : ByteArray := prog_6_method_9_code
def yX4_behindMoveSign : MethodName := ⟨RX4, "behindMoveSign", "(I)I"⟩
def RX5 : String := "StockLines"
def TX5 : u_T := fun k => match k with
  | 0 => ("StockLines", "game", "LStockLines$Game;", true)
  | 1 => ("StockLines", "saved", "[LStockLines$Game;", true)
  | 2 => ("StockLines", "savedCount", "I", false)
  | _ => ("StockLines", "script", "LStockLines$Script;", true)
def tyX5 : Nat → FieldType := fun k => match k with
  | 0 => .object "StockLines$Game"
  | 1 => .array (.object "StockLines$Game")
  | 2 => .int
  | _ => .object "StockLines$Script"
abbrev wsX50 : List Cond := u_ws RX5 TX5 4
theorem nmX5 : ∀ a, a < 4 → ∀ b, b < 4 → a ≠ b → (TX5 a).2.1 ≠ (TX5 b).2.1 := by decide +kernel
theorem tyX5_ok : ∀ k, k < 4 → parseFieldDescriptor (TX5 k).2.2.1 = some (tyX5 k) := by decide +kernel
abbrev cX5_init : ByteArray := prog_1_method_1_code
def yX5_init : MethodName := ⟨RX5, "<init>", "()V"⟩
abbrev cX5_begin : ByteArray := prog_1_method_2_code
def yX5_begin : MethodName := ⟨RX5, "begin", "(I)I"⟩
abbrev cX5_setTown : ByteArray := prog_1_method_3_code
def yX5_setTown : MethodName := ⟨RX5, "setTown", "(II)I"⟩
abbrev cX5_start : ByteArray := prog_1_method_4_code
def yX5_start : MethodName := ⟨RX5, "start", "(III)I"⟩
abbrev cX5_buy : ByteArray := prog_1_method_5_code
def yX5_buy : MethodName := ⟨RX5, "buy", "(I)I"⟩
abbrev cX5_sell : ByteArray := prog_1_method_6_code
def yX5_sell : MethodName := ⟨RX5, "sell", "(II)I"⟩
abbrev cX5_merge : ByteArray := prog_1_method_7_code
def yX5_merge : MethodName := ⟨RX5, "merge", "(II)I"⟩
abbrev cX5_pass : ByteArray := prog_1_method_8_code
def yX5_pass : MethodName := ⟨RX5, "pass", "()I"⟩
abbrev cX5_extend : ByteArray := prog_1_method_9_code
def yX5_extend : MethodName := ⟨RX5, "extend", "()I"⟩
abbrev cX5_operate : ByteArray := prog_1_method_10_code
def yX5_operate : MethodName := ⟨RX5, "operate", "(IIZ)I"⟩
abbrev cX5_player : ByteArray := prog_1_method_11_code
def yX5_player : MethodName := ⟨RX5, "player", "(II)I"⟩
abbrev cX5_company : ByteArray := prog_1_method_12_code
def yX5_company : MethodName := ⟨RX5, "company", "(II)I"⟩
abbrev cX5_track : ByteArray := prog_1_method_13_code
def yX5_track : MethodName := ⟨RX5, "track", "(II)I"⟩
abbrev cX5_value : ByteArray := prog_1_method_14_code
def yX5_value : MethodName := ⟨RX5, "value", "(I)I"⟩
abbrev cX5_town : ByteArray := prog_1_method_15_code
def yX5_town : MethodName := ⟨RX5, "town", "(I)I"⟩
abbrev cX5_route : ByteArray := prog_1_method_16_code
def yX5_route : MethodName := ⟨RX5, "route", "(II)I"⟩
abbrev cX5_incomeWith : ByteArray := prog_1_method_17_code
def yX5_incomeWith : MethodName := ⟨RX5, "incomeWith", "(III)I"⟩
abbrev cX5_bestTrack : ByteArray := prog_1_method_18_code
def yX5_bestTrack : MethodName := ⟨RX5, "bestTrack", "(I)I"⟩
abbrev cX5_dividend : ByteArray := prog_1_method_19_code
def yX5_dividend : MethodName := ⟨RX5, "dividend", "(I)I"⟩
abbrev cX5_leader : ByteArray := prog_1_method_20_code
def yX5_leader : MethodName := ⟨RX5, "leader", "()I"⟩
abbrev cX5_unsold : ByteArray := prog_1_method_21_code
def yX5_unsold : MethodName := ⟨RX5, "unsold", "()D"⟩
abbrev cX5_append : ByteArray := prog_1_method_22_code
def yX5_append : MethodName := ⟨RX5, "append", "(I)I"⟩
abbrev cX5_clearText : ByteArray := prog_1_method_23_code
def yX5_clearText : MethodName := ⟨RX5, "clearText", "()I"⟩
abbrev cX5_play : ByteArray := prog_1_method_24_code
def yX5_play : MethodName := ⟨RX5, "play", "()I"⟩
abbrev cX5_undo : ByteArray := prog_1_method_25_code
def yX5_undo : MethodName := ⟨RX5, "undo", "()I"⟩
abbrev cX5_digest : ByteArray := prog_1_method_26_code
def yX5_digest : MethodName := ⟨RX5, "digest", "()J"⟩
abbrev cX5_isTown : ByteArray := prog_1_method_27_code
def yX5_isTown : MethodName := ⟨RX5, "isTown", "(I)Z"⟩
abbrev cX5_isCompany : ByteArray := prog_1_method_28_code
def yX5_isCompany : MethodName := ⟨RX5, "isCompany", "(I)Z"⟩
abbrev cX5_saveState : ByteArray := prog_1_method_29_code
def yX5_saveState : MethodName := ⟨RX5, "saveState", "()V"⟩
abbrev cX5_makeMove : ByteArray := prog_1_method_30_code
def yX5_makeMove : MethodName := ⟨RX5, "makeMove", "(I)Z"⟩
def RX6 : String := "StockLinesModel"
def TX6 : u_T := fun k => match k with
  | 0 => ("StockLinesModel", "now", "[I", true)
  | 1 => ("StockLinesModel", "past", "[I", true)
  | 2 => ("StockLinesModel", "saved", "I", false)
  | 3 => ("StockLinesModel", "text", "[I", true)
  | 4 => ("StockLinesModel", "length", "I", false)
  | 5 => ("StockLinesModel", "refusal", "I", false)
  | 6 => ("StockLinesModel", "path", "[I", true)
  | 7 => ("StockLinesModel", "sums", "[I", true)
  | 8 => ("StockLinesModel", "taken", "[I", true)
  | 9 => ("StockLinesModel", "best", "[I", true)
  | 10 => ("StockLinesModel", "bestMany", "I", false)
  | 11 => ("StockLinesModel", "bestSum", "I", false)
  | 12 => ("StockLinesModel", "at", "I", false)
  | 13 => ("StockLinesModel", "letter", "I", false)
  | 14 => ("StockLinesModel", "one", "I", false)
  | 15 => ("StockLinesModel", "other", "I", false)
  | _ => ("StockLinesModel", "hash", "J", false)
def tyX6 : Nat → FieldType := fun k => match k with
  | 0 => .array .int
  | 1 => .array .int
  | 2 => .int
  | 3 => .array .int
  | 4 => .int
  | 5 => .int
  | 6 => .array .int
  | 7 => .array .int
  | 8 => .array .int
  | 9 => .array .int
  | 10 => .int
  | 11 => .int
  | 12 => .int
  | 13 => .int
  | 14 => .int
  | 15 => .int
  | _ => .long
abbrev wsX60 : List Cond := u_ws RX6 TX6 17
theorem nmX6 : ∀ a, a < 17 → ∀ b, b < 17 → a ≠ b → (TX6 a).2.1 ≠ (TX6 b).2.1 := by decide +kernel
theorem tyX6_ok : ∀ k, k < 17 → parseFieldDescriptor (TX6 k).2.2.1 = some (tyX6 k) := by decide +kernel
abbrev cX6_init : ByteArray := prog_8_method_1_code
def yX6_init : MethodName := ⟨RX6, "<init>", "()V"⟩
abbrev cX6_thrown : ByteArray := prog_8_method_2_code
def yX6_thrown : MethodName := ⟨RX6, "thrown", "()I"⟩
abbrev cX6_refused : ByteArray := prog_8_method_3_code
def yX6_refused : MethodName := ⟨RX6, "refused", "(I)Z"⟩
abbrev cX6_in : ByteArray := prog_8_method_4_code
def yX6_in : MethodName := ⟨RX6, "in", "(III)Z"⟩
abbrev cX6_has : ByteArray := prog_8_method_5_code
def yX6_has : MethodName := ⟨RX6, "has", "(II)Z"⟩
abbrev cX6_begins : ByteArray := prog_8_method_6_code
def yX6_begins : MethodName := ⟨RX6, "begins", "(I)V"⟩
abbrev cX6_saves : ByteArray := prog_8_method_7_code
def yX6_saves : MethodName := ⟨RX6, "saves", "()V"⟩
abbrev cX6_undo : ByteArray := prog_8_method_8_code
def yX6_undo : MethodName := ⟨RX6, "undo", "()I"⟩
abbrev cX6_isPlayer : ByteArray := prog_8_method_9_code
def yX6_isPlayer : MethodName := ⟨RX6, "isPlayer", "(I)Z"⟩
abbrev cX6_isCompany : ByteArray := prog_8_method_10_code
def yX6_isCompany : MethodName := ⟨RX6, "isCompany", "(I)Z"⟩
abbrev cX6_isTown : ByteArray := prog_8_method_11_code
def yX6_isTown : MethodName := ⟨RX6, "isTown", "(I)Z"⟩
abbrev cX6_of : ByteArray := prog_8_method_12_code
def yX6_of : MethodName := ⟨RX6, "of", "(II)I"⟩
abbrev cX6_isOpen : ByteArray := prog_8_method_13_code
def yX6_isOpen : MethodName := ⟨RX6, "isOpen", "(I)Z"⟩
abbrev cX6_price : ByteArray := prog_8_method_14_code
def yX6_price : MethodName := ⟨RX6, "price", "(I)I"⟩
abbrev cX6_shares : ByteArray := prog_8_method_15_code
def yX6_shares : MethodName := ⟨RX6, "shares", "(II)I"⟩
abbrev cX6_level : ByteArray := prog_8_method_16_code
def yX6_level : MethodName := ⟨RX6, "level", "(II)I"⟩
abbrev cX6_levels : ByteArray := prog_8_method_17_code
def yX6_levels : MethodName := ⟨RX6, "levels", "(III)V"⟩
abbrev cX6_rest : ByteArray := prog_8_method_18_code
def yX6_rest : MethodName := ⟨RX6, "rest", "(I)I"⟩
abbrev cX6_presides : ByteArray := prog_8_method_19_code
def yX6_presides : MethodName := ⟨RX6, "presides", "(I)V"⟩
abbrev cX6_shifts : ByteArray := prog_8_method_20_code
def yX6_shifts : MethodName := ⟨RX6, "shifts", "(II)V"⟩
abbrev cX6_pays : ByteArray := prog_8_method_21_code
def yX6_pays : MethodName := ⟨RX6, "pays", "(II)V"⟩
abbrev cX6_earns : ByteArray := prog_8_method_22_code
def yX6_earns : MethodName := ⟨RX6, "earns", "(II)V"⟩
abbrev cX6_holds : ByteArray := prog_8_method_23_code
def yX6_holds : MethodName := ⟨RX6, "holds", "(III)V"⟩
abbrev cX6_closes : ByteArray := prog_8_method_24_code
def yX6_closes : MethodName := ⟨RX6, "closes", "(I)V"⟩
abbrev cX6_begin : ByteArray := prog_8_method_25_code
def yX6_begin : MethodName := ⟨RX6, "begin", "(I)I"⟩
abbrev cX6_setTown : ByteArray := prog_8_method_26_code
def yX6_setTown : MethodName := ⟨RX6, "setTown", "(II)I"⟩
abbrev cX6_turns : ByteArray := prog_8_method_27_code
def yX6_turns : MethodName := ⟨RX6, "turns", "()V"⟩
abbrev cX6_ends : ByteArray := prog_8_method_28_code
def yX6_ends : MethodName := ⟨RX6, "ends", "()V"⟩
abbrev cX6_isStock : ByteArray := prog_8_method_29_code
def yX6_isStock : MethodName := ⟨RX6, "isStock", "()Z"⟩
abbrev cX6_purse : ByteArray := prog_8_method_30_code
def yX6_purse : MethodName := ⟨RX6, "purse", "()I"⟩
abbrev cX6_start : ByteArray := prog_8_method_31_code
def yX6_start : MethodName := ⟨RX6, "start", "(III)I"⟩
abbrev cX6_canBuy : ByteArray := prog_8_method_32_code
def yX6_canBuy : MethodName := ⟨RX6, "canBuy", "(I)Z"⟩
abbrev cX6_buys : ByteArray := prog_8_method_33_code
def yX6_buys : MethodName := ⟨RX6, "buys", "(I)I"⟩
abbrev cX6_buy : ByteArray := prog_8_method_34_code
def yX6_buy : MethodName := ⟨RX6, "buy", "(I)I"⟩
abbrev cX6_canSell : ByteArray := prog_8_method_35_code
def yX6_canSell : MethodName := ⟨RX6, "canSell", "(II)Z"⟩
abbrev cX6_sells : ByteArray := prog_8_method_36_code
def yX6_sells : MethodName := ⟨RX6, "sells", "(II)I"⟩
abbrev cX6_sell : ByteArray := prog_8_method_37_code
def yX6_sell : MethodName := ⟨RX6, "sell", "(II)I"⟩
abbrev cX6_wanted : ByteArray := prog_8_method_38_code
def yX6_wanted : MethodName := ⟨RX6, "wanted", "(I)I"⟩
abbrev cX6_canMerge : ByteArray := prog_8_method_39_code
def yX6_canMerge : MethodName := ⟨RX6, "canMerge", "(II)Z"⟩
abbrev cX6_merge : ByteArray := prog_8_method_40_code
def yX6_merge : MethodName := ⟨RX6, "merge", "(II)I"⟩
abbrev cX6_isAhead : ByteArray := prog_8_method_41_code
def yX6_isAhead : MethodName := ⟨RX6, "isAhead", "(II)Z"⟩
abbrev cX6_orders : ByteArray := prog_8_method_42_code
def yX6_orders : MethodName := ⟨RX6, "orders", "()V"⟩
abbrev cX6_goesOn : ByteArray := prog_8_method_43_code
def yX6_goesOn : MethodName := ⟨RX6, "goesOn", "()V"⟩
abbrev cX6_passes : ByteArray := prog_8_method_44_code
def yX6_passes : MethodName := ⟨RX6, "passes", "()I"⟩
abbrev cX6_pass : ByteArray := prog_8_method_45_code
def yX6_pass : MethodName := ⟨RX6, "pass", "()I"⟩
abbrev cX6_next : ByteArray := prog_8_method_46_code
def yX6_next : MethodName := ⟨RX6, "next", "()I"⟩
abbrev cX6_extend : ByteArray := prog_8_method_47_code
def yX6_extend : MethodName := ⟨RX6, "extend", "()I"⟩
abbrev cX6_joined : ByteArray := prog_8_method_48_code
def yX6_joined : MethodName := ⟨RX6, "joined", "(I)I"⟩
abbrev cX6_canLay : ByteArray := prog_8_method_49_code
def yX6_canLay : MethodName := ⟨RX6, "canLay", "(III)Z"⟩
abbrev cX6_comes : ByteArray := prog_8_method_50_code
def yX6_comes : MethodName := ⟨RX6, "comes", "(II)V"⟩
abbrev cX6_keepsBest : ByteArray := prog_8_method_51_code
def yX6_keepsBest : MethodName := ⟨RX6, "keepsBest", "(I)V"⟩
abbrev cX6_findsRoute : ByteArray := prog_8_method_52_code
def yX6_findsRoute : MethodName := ⟨RX6, "findsRoute", "(I)V"⟩
abbrev cX6_income : ByteArray := prog_8_method_53_code
def yX6_income : MethodName := ⟨RX6, "income", "(I)I"⟩
abbrev cX6_cheapest : ByteArray := prog_8_method_54_code
def yX6_cheapest : MethodName := ⟨RX6, "cheapest", "(I)I"⟩
abbrev cX6_isPaid : ByteArray := prog_8_method_55_code
def yX6_isPaid : MethodName := ⟨RX6, "isPaid", "(II)Z"⟩
abbrev cX6_upkeep : ByteArray := prog_8_method_56_code
def yX6_upkeep : MethodName := ⟨RX6, "upkeep", "(I)V"⟩
abbrev cX6_canOperate : ByteArray := prog_8_method_57_code
def yX6_canOperate : MethodName := ⟨RX6, "canOperate", "(II)Z"⟩
abbrev cX6_operates : ByteArray := prog_8_method_58_code
def yX6_operates : MethodName := ⟨RX6, "operates", "(IIZ)I"⟩
abbrev cX6_operate : ByteArray := prog_8_method_59_code
def yX6_operate : MethodName := ⟨RX6, "operate", "(IIZ)I"⟩
abbrev cX6_worth : ByteArray := prog_8_method_60_code
def yX6_worth : MethodName := ⟨RX6, "worth", "(I)I"⟩
abbrev cX6_presidencies : ByteArray := prog_8_method_61_code
def yX6_presidencies : MethodName := ⟨RX6, "presidencies", "(I)I"⟩
abbrev cX6_tellPlayer : ByteArray := prog_8_method_62_code
def yX6_tellPlayer : MethodName := ⟨RX6, "tellPlayer", "(II)I"⟩
abbrev cX6_player : ByteArray := prog_8_method_63_code
def yX6_player : MethodName := ⟨RX6, "player", "(II)I"⟩
abbrev cX6_tellCompany : ByteArray := prog_8_method_64_code
def yX6_tellCompany : MethodName := ⟨RX6, "tellCompany", "(II)I"⟩
abbrev cX6_company : ByteArray := prog_8_method_65_code
def yX6_company : MethodName := ⟨RX6, "company", "(II)I"⟩
abbrev cX6_track : ByteArray := prog_8_method_66_code
def yX6_track : MethodName := ⟨RX6, "track", "(II)I"⟩
abbrev cX6_tracks : ByteArray := prog_8_method_67_code
def yX6_tracks : MethodName := ⟨RX6, "tracks", "()I"⟩
abbrev cX6_openOnes : ByteArray := prog_8_method_68_code
def yX6_openOnes : MethodName := ⟨RX6, "openOnes", "()I"⟩
abbrev cX6_tellValue : ByteArray := prog_8_method_69_code
def yX6_tellValue : MethodName := ⟨RX6, "tellValue", "(I)I"⟩
abbrev cX6_value : ByteArray := prog_8_method_70_code
def yX6_value : MethodName := ⟨RX6, "value", "(I)I"⟩
abbrev cX6_town : ByteArray := prog_8_method_71_code
def yX6_town : MethodName := ⟨RX6, "town", "(I)I"⟩
abbrev cX6_route : ByteArray := prog_8_method_72_code
def yX6_route : MethodName := ⟨RX6, "route", "(II)I"⟩
abbrev cX6_incomeBy : ByteArray := prog_8_method_73_code
def yX6_incomeBy : MethodName := ⟨RX6, "incomeBy", "(III)I"⟩
abbrev cX6_incomeWith : ByteArray := prog_8_method_74_code
def yX6_incomeWith : MethodName := ⟨RX6, "incomeWith", "(III)I"⟩
abbrev cX6_bestTrack : ByteArray := prog_8_method_75_code
def yX6_bestTrack : MethodName := ⟨RX6, "bestTrack", "(I)I"⟩
abbrev cX6_dividend : ByteArray := prog_8_method_76_code
def yX6_dividend : MethodName := ⟨RX6, "dividend", "(I)I"⟩
abbrev cX6_leader : ByteArray := prog_8_method_77_code
def yX6_leader : MethodName := ⟨RX6, "leader", "()I"⟩
abbrev cX6_unsold : ByteArray := prog_8_method_78_code
def yX6_unsold : MethodName := ⟨RX6, "unsold", "()D"⟩
abbrev cX6_append : ByteArray := prog_8_method_79_code
def yX6_append : MethodName := ⟨RX6, "append", "(I)I"⟩
abbrev cX6_clearText : ByteArray := prog_8_method_80_code
def yX6_clearText : MethodName := ⟨RX6, "clearText", "()I"⟩
abbrev cX6_isDigit : ByteArray := prog_8_method_81_code
def yX6_isDigit : MethodName := ⟨RX6, "isDigit", "(II)Z"⟩
abbrev cX6_digit : ByteArray := prog_8_method_82_code
def yX6_digit : MethodName := ⟨RX6, "digit", "()I"⟩
abbrev cX6_takesDigits : ByteArray := prog_8_method_83_code
def yX6_takesDigits : MethodName := ⟨RX6, "takesDigits", "()Z"⟩
abbrev cX6_takesMove : ByteArray := prog_8_method_84_code
def yX6_takesMove : MethodName := ⟨RX6, "takesMove", "()Z"⟩
abbrev cX6_makes : ByteArray := prog_8_method_85_code
def yX6_makes : MethodName := ⟨RX6, "makes", "()Z"⟩
abbrev cX6_play : ByteArray := prog_8_method_86_code
def yX6_play : MethodName := ⟨RX6, "play", "()I"⟩
abbrev cX6_mix : ByteArray := prog_8_method_87_code
def yX6_mix : MethodName := ⟨RX6, "mix", "(I)V"⟩
abbrev cX6_digest : ByteArray := prog_8_method_88_code
def yX6_digest : MethodName := ⟨RX6, "digest", "()J"⟩
def RJx145de : String := "java/io/Serializable"
def RJ9 : String := "java/lang/Math"
abbrev cJ9_max_7cf53 : ByteArray := prog_13_method_65_code
def yJ9_max_7cf53 : MethodName := ⟨RJ9, "max", "(II)I"⟩
abbrev cJ9_min_7cf53 : ByteArray := prog_13_method_69_code
def yJ9_min_7cf53 : MethodName := ⟨RJ9, "min", "(II)I"⟩
def RJ10 : String := "java/lang/System"
def RJ7 : String := "java/util/Arrays"
abbrev cJ7_fill_53178 : ByteArray := prog_17_method_103_code
def yJ7_fill_53178 : MethodName := ⟨RJ7, "fill", "([II)V"⟩
def RL : String := "StockLinesLaw"
abbrev cL_begin : ByteArray := method_3_code
def yL_begin : MethodName := ⟨RL, "begin", "(LStockLines;I[J)I"⟩
abbrev cL_setTown : ByteArray := method_4_code
def yL_setTown : MethodName := ⟨RL, "setTown", "(LStockLines;II[J)I"⟩
abbrev cL_start : ByteArray := method_5_code
def yL_start : MethodName := ⟨RL, "start", "(LStockLines;III[J)I"⟩
abbrev cL_buy : ByteArray := method_6_code
def yL_buy : MethodName := ⟨RL, "buy", "(LStockLines;I[J)I"⟩
abbrev cL_sell : ByteArray := method_7_code
def yL_sell : MethodName := ⟨RL, "sell", "(LStockLines;II[J)I"⟩
abbrev cL_merge : ByteArray := method_8_code
def yL_merge : MethodName := ⟨RL, "merge", "(LStockLines;II[J)I"⟩
abbrev cL_pass : ByteArray := method_9_code
def yL_pass : MethodName := ⟨RL, "pass", "(LStockLines;[J)I"⟩
abbrev cL_extend : ByteArray := method_10_code
def yL_extend : MethodName := ⟨RL, "extend", "(LStockLines;[J)I"⟩
abbrev cL_operate : ByteArray := method_11_code
def yL_operate : MethodName := ⟨RL, "operate", "(LStockLines;IIZ[J)I"⟩
abbrev cL_player : ByteArray := method_12_code
def yL_player : MethodName := ⟨RL, "player", "(LStockLines;II[J)I"⟩
abbrev cL_company : ByteArray := method_13_code
def yL_company : MethodName := ⟨RL, "company", "(LStockLines;II[J)I"⟩
abbrev cL_track : ByteArray := method_14_code
def yL_track : MethodName := ⟨RL, "track", "(LStockLines;II[J)I"⟩
abbrev cL_value : ByteArray := method_15_code
def yL_value : MethodName := ⟨RL, "value", "(LStockLines;I[J)I"⟩
abbrev cL_town : ByteArray := method_16_code
def yL_town : MethodName := ⟨RL, "town", "(LStockLines;I[J)I"⟩
abbrev cL_route : ByteArray := method_17_code
def yL_route : MethodName := ⟨RL, "route", "(LStockLines;II[J)I"⟩
abbrev cL_incomeWith : ByteArray := method_18_code
def yL_incomeWith : MethodName := ⟨RL, "incomeWith", "(LStockLines;III[J)I"⟩
abbrev cL_bestTrack : ByteArray := method_19_code
def yL_bestTrack : MethodName := ⟨RL, "bestTrack", "(LStockLines;I[J)I"⟩
abbrev cL_dividend : ByteArray := method_20_code
def yL_dividend : MethodName := ⟨RL, "dividend", "(LStockLines;I[J)I"⟩
abbrev cL_append : ByteArray := method_21_code
def yL_append : MethodName := ⟨RL, "append", "(LStockLines;I[J)I"⟩
abbrev cL_undo : ByteArray := method_22_code
def yL_undo : MethodName := ⟨RL, "undo", "(LStockLines;[J)I"⟩
abbrev cL_law : ByteArray := code
def yL_law : MethodName := ⟨RL, "law", "([I)Z"⟩
abbrev vwCl : List vw_C := [(RX0, TX0, 8), (RX1, TX1, 15), (RX2, TX2, 2), (RX3, TX3, 8), (RX4, TX4, 2), (RX5, TX5, 4), (RX6, TX6, 17)]
end
section
/-! each method's instructions in lists, each decided once -/
abbrev zTb : Type := List (Nat × Instr × Nat)
def zDk (cc : ByteArray) (T : zTb) : Bool := T.all (fun q => decide (decode cc q.1 = .ok q.2))
theorem zD {cc : ByteArray} {T : zTb} (h : zDk cc T = true) (k : Nat) {pc n : Nat} {i : Instr} (e : T[k]? = some (pc, i, n)) : decode cc pc = .ok (i, n) := by
  unfold zDk at h
  rw [List.all_eq_true] at h
  have h1 := h (pc, i, n) (List.mem_of_getElem? e)
  simp only [decide_eq_true_eq] at h1
  exact h1
def T_X0_init_0 : zTb := [(0, .aload_n 0, 1), (1, .invokespecial 3, 3), (4, .aload_n 0, 1), (5, .iconst 4, 1), (6, .newarray .int, 2), (8, .putfield 9, 3), (11, .return_, 1)]
theorem D_X0_init_0 : zDk cX0_init T_X0_init_0 = true := by decide +kernel
def T_X0_priceAt_0 : zTb := [(0, .bipush 20, 2), (2, .bipush 10, 2), (4, .iload_n 0, 1), (5, .imul, 1), (6, .iadd, 1), (7, .ireturn, 1)]
theorem D_X0_priceAt_0 : zDk cX0_priceAt T_X0_priceAt_0 = true := by decide +kernel
def T_X0_price_0 : zTb := [(0, .aload_n 0, 1), (1, .getfield 15, 3), (4, .invokestatic 19, 3), (7, .ireturn, 1)]
theorem D_X0_price_0 : zDk cX0_price T_X0_price_0 = true := by decide +kernel
def T_X0_openAt_0 : zTb := [(0, .aload_n 0, 1), (1, .iconst 1, 1), (2, .putfield 23, 3), (5, .aload_n 0, 1), (6, .iload_n 1, 1), (7, .putfield 27, 3), (10, .aload_n 0, 1), (11, .iload_n 2, 1), (12, .putfield 15, 3), (15, .aload_n 0, 1), (16, .iconst 2, 1), (17, .putfield 30, 3), (20, .return_, 1)]
theorem D_X0_openAt_0 : zDk cX0_openAt T_X0_openAt_0 = true := by decide +kernel
def T_X0_close_0 : zTb := [(0, .aload_n 0, 1), (1, .getfield 9, 3), (4, .iconst 0, 1), (5, .invokestatic 33, 3), (8, .aload_n 0, 1), (9, .iconst 0, 1), (10, .putfield 23, 3), (13, .aload_n 0, 1), (14, .iconst 0, 1), (15, .putfield 27, 3), (18, .aload_n 0, 1), (19, .iconst 0, 1), (20, .putfield 39, 3), (23, .aload_n 0, 1), (24, .iconst 0, 1), (25, .putfield 15, 3), (28, .aload_n 0, 1), (29, .iconst 0, 1), (30, .putfield 30, 3), (33, .aload_n 0, 1), (34, .iconst (-1), 1), (35, .putfield 42, 3), (38, .aload_n 0, 1), (39, .iconst 0, 1), (40, .putfield 45, 3), (43, .return_, 1)]
theorem D_X0_close_0 : zDk cX0_close T_X0_close_0 = true := by decide +kernel
def T_X0_copyFrom_0 : zTb := [(0, .aload_n 1, 1), (1, .getfield 9, 3), (4, .iconst 0, 1), (5, .aload_n 0, 1), (6, .getfield 9, 3), (9, .iconst 0, 1), (10, .iconst 4, 1), (11, .invokestatic 48, 3), (14, .aload_n 0, 1), (15, .aload_n 1, 1), (16, .getfield 23, 3), (19, .putfield 23, 3), (22, .aload_n 0, 1), (23, .aload_n 1, 1), (24, .getfield 27, 3), (27, .putfield 27, 3), (30, .aload_n 0, 1), (31, .aload_n 1, 1), (32, .getfield 39, 3), (35, .putfield 39, 3), (38, .aload_n 0, 1), (39, .aload_n 1, 1), (40, .getfield 15, 3), (43, .putfield 15, 3), (46, .aload_n 0, 1), (47, .aload_n 1, 1), (48, .getfield 30, 3), (51, .putfield 30, 3), (54, .aload_n 0, 1), (55, .aload_n 1, 1), (56, .getfield 42, 3), (59, .putfield 42, 3), (62, .aload_n 0, 1), (63, .aload_n 1, 1), (64, .getfield 45, 3), (67, .putfield 45, 3), (70, .return_, 1)]
theorem D_X0_copyFrom_0 : zDk cX0_copyFrom T_X0_copyFrom_0 = true := by decide +kernel
def T_X0_bankShares_0 : zTb := [(0, .bipush 10, 2), (2, .istore_n 1, 1), (3, .iconst 0, 1), (4, .istore_n 2, 1), (5, .iload_n 2, 1), (6, .iconst 4, 1), (7, .if_icmp .ge 18, 3), (10, .iload_n 1, 1), (11, .aload_n 0, 1), (12, .getfield 9, 3), (15, .iload_n 2, 1), (16, .iaload, 1), (17, .isub, 1), (18, .istore_n 1, 1), (19, .iinc 2 1, 3), (22, .goto (-17), 3), (25, .iload_n 1, 1), (26, .ireturn, 1)]
theorem D_X0_bankShares_0 : zDk cX0_bankShares T_X0_bankShares_0 = true := by decide +kernel
def T_X0_exchangedShares_0 : zTb := [(0, .iconst 0, 1), (1, .istore_n 1, 1), (2, .iconst 0, 1), (3, .istore_n 2, 1), (4, .iload_n 2, 1), (5, .iconst 4, 1), (6, .if_icmp .ge 20, 3), (9, .iload_n 1, 1), (10, .aload_n 0, 1), (11, .getfield 9, 3), (14, .iload_n 2, 1), (15, .iaload, 1), (16, .iconst 2, 1), (17, .idiv, 1), (18, .iadd, 1), (19, .istore_n 1, 1), (20, .iinc 2 1, 3), (23, .goto (-19), 3), (26, .iload_n 1, 1), (27, .ireturn, 1)]
theorem D_X0_exchangedShares_0 : zDk cX0_exchangedShares T_X0_exchangedShares_0 = true := by decide +kernel
def T_X0_findPresident_0 : zTb := [(0, .aload_n 0, 1), (1, .getfield 42, 3), (4, .iconst (-1), 1), (5, .if_icmp .ne 7, 3), (8, .iconst 0, 1), (9, .goto 12, 3), (12, .aload_n 0, 1), (13, .getfield 9, 3), (16, .aload_n 0, 1), (17, .getfield 42, 3), (20, .iaload, 1), (21, .istore_n 1, 1), (22, .iload_n 1, 1), (23, .ifCond .le 10, 3), (26, .aload_n 0, 1), (27, .getfield 42, 3), (30, .goto 4, 3), (33, .iconst (-1), 1), (34, .istore_n 2, 1), (35, .iconst 0, 1), (36, .istore_n 3, 1), (37, .iload_n 3, 1), (38, .iconst 4, 1), (39, .if_icmp .ge 28, 3), (42, .aload_n 0, 1), (43, .getfield 9, 3), (46, .iload_n 3, 1), (47, .iaload, 1), (48, .iload_n 1, 1), (49, .if_icmp .le 12, 3), (52, .aload_n 0, 1), (53, .getfield 9, 3), (56, .iload_n 3, 1), (57, .iaload, 1), (58, .istore_n 1, 1), (59, .iload_n 3, 1), (60, .istore_n 2, 1), (61, .iinc 3 1, 3), (64, .goto (-27), 3), (67, .aload_n 0, 1), (68, .iload_n 2, 1), (69, .putfield 42, 3), (72, .return_, 1)]
theorem D_X0_findPresident_0 : zDk cX0_findPresident T_X0_findPresident_0 = true := by decide +kernel
def T_X0_rise_0 : zTb := [(0, .aload_n 0, 1), (1, .getfield 15, 3), (4, .bipush 11, 2), (6, .if_icmp .ge 13, 3), (9, .aload_n 0, 1), (10, .dup, 1), (11, .getfield 15, 3), (14, .iconst 1, 1), (15, .iadd, 1), (16, .putfield 15, 3), (19, .return_, 1)]
theorem D_X0_rise_0 : zDk cX0_rise T_X0_rise_0 = true := by decide +kernel
def T_X0_fall_0 : zTb := [(0, .aload_n 0, 1), (1, .getfield 15, 3), (4, .ifCond .le 13, 3), (7, .aload_n 0, 1), (8, .dup, 1), (9, .getfield 15, 3), (12, .iconst 1, 1), (13, .isub, 1), (14, .putfield 15, 3), (17, .return_, 1)]
theorem D_X0_fall_0 : zDk cX0_fall T_X0_fall_0 = true := by decide +kernel
def T_X0_number_0 : zTb := [(0, .iload_n 1, 1), (1, .tableswitch 69 1 6 #[39, 44, 49, 54, 59, 64], 39), (40, .aload_n 0, 1), (41, .getfield 27, 3), (44, .ireturn, 1), (45, .aload_n 0, 1), (46, .getfield 39, 3), (49, .ireturn, 1), (50, .aload_n 0, 1), (51, .invokevirtual 54, 3), (54, .ireturn, 1), (55, .aload_n 0, 1), (56, .getfield 30, 3), (59, .ireturn, 1), (60, .aload_n 0, 1), (61, .getfield 42, 3), (64, .ireturn, 1), (65, .aload_n 0, 1), (66, .invokevirtual 58, 3), (69, .ireturn, 1), (70, .aload_n 0, 1), (71, .getfield 45, 3), (74, .ireturn, 1)]
theorem D_X0_number_0 : zDk cX0_number T_X0_number_0 = true := by decide +kernel
def T_X1_init_0 : zTb := [(0, .aload_n 0, 1), (1, .invokespecial 3, 3), (4, .aload_n 0, 1), (5, .new 9, 3), (8, .dup, 1), (9, .invokespecial 11, 3), (12, .putfield 12, 3), (15, .aload_n 0, 1), (16, .iconst 4, 1), (17, .anewarray 18, 3), (20, .putfield 20, 3), (23, .aload_n 0, 1), (24, .iconst 4, 1), (25, .newarray .int, 2), (27, .putfield 24, 3), (30, .aload_n 0, 1), (31, .iconst 4, 1), (32, .newarray .int, 2), (34, .putfield 28, 3), (37, .aload_n 0, 1), (38, .aload_n 1, 1), (39, .putfield 31, 3), (42, .iconst 0, 1), (43, .istore_n 2, 1), (44, .iload_n 2, 1), (45, .iconst 4, 1), (46, .if_icmp .ge 22, 3), (49, .aload_n 0, 1), (50, .getfield 20, 3), (53, .iload_n 2, 1), (54, .new 18, 3), (57, .dup, 1), (58, .invokespecial 35, 3), (61, .aastore, 1), (62, .iinc 2 1, 3), (65, .goto (-21), 3), (68, .aload_n 0, 1), (69, .iconst 3, 1), (70, .invokevirtual 36, 3), (73, .return_, 1)]
theorem D_X1_init_0 : zDk cX1_init T_X1_init_0 = true := by decide +kernel
def T_X1_reset_0 : zTb := [(0, .aload_n 0, 1), (1, .getfield 12, 3), (4, .invokevirtual 40, 3), (7, .iconst 0, 1), (8, .istore_n 2, 1), (9, .iload_n 2, 1), (10, .iconst 4, 1), (11, .if_icmp .ge 25, 3), (14, .aload_n 0, 1), (15, .getfield 20, 3), (18, .iload_n 2, 1), (19, .aaload, 1), (20, .invokevirtual 43, 3), (23, .aload_n 0, 1), (24, .getfield 28, 3), (27, .iload_n 2, 1), (28, .iconst 0, 1), (29, .iastore, 1), (30, .iinc 2 1, 3), (33, .goto (-24), 3), (36, .aload_n 0, 1), (37, .getfield 24, 3), (40, .sipush 500, 3), (43, .invokestatic 46, 3), (46, .aload_n 0, 1), (47, .iconst 0, 1), (48, .putfield 52, 3), (51, .aload_n 0, 1), (52, .iconst 0, 1), (53, .putfield 56, 3), (56, .aload_n 0, 1), (57, .iconst 0, 1), (58, .putfield 59, 3), (61, .aload_n 0, 1), (62, .iload_n 1, 1), (63, .putfield 63, 3), (66, .aload_n 0, 1), (67, .iconst 0, 1), (68, .putfield 66, 3), (71, .aload_n 0, 1), (72, .iconst 0, 1), (73, .putfield 69, 3), (76, .aload_n 0, 1), (77, .iconst 0, 1), (78, .putfield 72, 3), (81, .aload_n 0, 1), (82, .iconst 0, 1), (83, .putfield 75, 3), (86, .aload_n 0, 1), (87, .iconst 0, 1), (88, .putfield 78, 3), (91, .aload_n 0, 1), (92, .iconst 0, 1), (93, .putfield 81, 3), (96, .return_, 1)]
theorem D_X1_reset_0 : zDk cX1_reset T_X1_reset_0 = true := by decide +kernel
def T_X1_copyFrom_0 : zTb := [(0, .aload_n 0, 1), (1, .getfield 12, 3), (4, .aload_n 1, 1), (5, .getfield 12, 3), (8, .invokevirtual 84, 3), (11, .iconst 0, 1), (12, .istore_n 2, 1), (13, .iload_n 2, 1), (14, .iconst 4, 1), (15, .if_icmp .ge 24, 3), (18, .aload_n 0, 1), (19, .getfield 20, 3), (22, .iload_n 2, 1), (23, .aaload, 1), (24, .aload_n 1, 1), (25, .getfield 20, 3), (28, .iload_n 2, 1), (29, .aaload, 1), (30, .invokevirtual 88, 3), (33, .iinc 2 1, 3), (36, .goto (-23), 3), (39, .aload_n 1, 1), (40, .getfield 24, 3), (43, .iconst 0, 1), (44, .aload_n 0, 1), (45, .getfield 24, 3), (48, .iconst 0, 1), (49, .iconst 4, 1), (50, .invokestatic 91, 3), (53, .aload_n 1, 1), (54, .getfield 28, 3), (57, .iconst 0, 1), (58, .aload_n 0, 1), (59, .getfield 28, 3), (62, .iconst 0, 1), (63, .iconst 4, 1), (64, .invokestatic 91, 3), (67, .aload_n 0, 1), (68, .aload_n 1, 1), (69, .getfield 52, 3), (72, .putfield 52, 3), (75, .aload_n 0, 1), (76, .aload_n 1, 1), (77, .getfield 56, 3), (80, .putfield 56, 3), (83, .aload_n 0, 1), (84, .aload_n 1, 1), (85, .getfield 59, 3), (88, .putfield 59, 3), (91, .aload_n 0, 1), (92, .aload_n 1, 1), (93, .getfield 63, 3), (96, .putfield 63, 3), (99, .aload_n 0, 1), (100, .aload_n 1, 1), (101, .getfield 66, 3), (104, .putfield 66, 3), (107, .aload_n 0, 1), (108, .aload_n 1, 1), (109, .getfield 69, 3)]
theorem D_X1_copyFrom_0 : zDk cX1_copyFrom T_X1_copyFrom_0 = true := by decide +kernel
def T_X1_copyFrom_1 : zTb := [(112, .putfield 69, 3), (115, .aload_n 0, 1), (116, .aload_n 1, 1), (117, .getfield 72, 3), (120, .putfield 72, 3), (123, .aload_n 0, 1), (124, .aload_n 1, 1), (125, .getfield 75, 3), (128, .putfield 75, 3), (131, .aload_n 0, 1), (132, .aload_n 1, 1), (133, .getfield 78, 3), (136, .putfield 78, 3), (139, .aload_n 0, 1), (140, .aload_n 1, 1), (141, .getfield 81, 3), (144, .putfield 81, 3), (147, .return_, 1)]
theorem D_X1_copyFrom_1 : zDk cX1_copyFrom T_X1_copyFrom_1 = true := by decide +kernel
def T_X1_canStart_0 : zTb := [(0, .aload_n 0, 1), (1, .getfield 72, 3), (4, .ifCond .ne 37, 3), (7, .aload_n 0, 1), (8, .getfield 20, 3), (11, .iload_n 1, 1), (12, .aaload, 1), (13, .getfield 97, 3), (16, .ifCond .ne 25, 3), (19, .aload_n 0, 1), (20, .getfield 24, 3), (23, .aload_n 0, 1), (24, .getfield 66, 3), (27, .iaload, 1), (28, .iconst 2, 1), (29, .iload_n 2, 1), (30, .invokestatic 100, 3), (33, .imul, 1), (34, .if_icmp .lt 7, 3), (37, .iconst 1, 1), (38, .goto 4, 3), (41, .iconst 0, 1), (42, .ireturn, 1)]
theorem D_X1_canStart_0 : zDk cX1_canStart T_X1_canStart_0 = true := by decide +kernel
def T_X1_startCompany_0 : zTb := [(0, .aload_n 0, 1), (1, .getfield 20, 3), (4, .iload_n 1, 1), (5, .aaload, 1), (6, .astore 4, 2), (8, .aload 4, 2), (10, .iload_n 2, 1), (11, .iload_n 3, 1), (12, .invokevirtual 104, 3), (15, .aload 4, 2), (17, .invokevirtual 108, 3), (20, .istore 5, 2), (22, .aload_n 0, 1), (23, .aload_n 0, 1), (24, .getfield 66, 3), (27, .iconst 2, 1), (28, .iload 5, 2), (30, .imul, 1), (31, .invokevirtual 112, 3), (34, .aload 4, 2), (36, .getfield 115, 3), (39, .aload_n 0, 1), (40, .getfield 66, 3), (43, .iconst 2, 1), (44, .iastore, 1), (45, .aload 4, 2), (47, .invokevirtual 118, 3), (50, .aload 4, 2), (52, .iconst 5, 1), (53, .iload 5, 2), (55, .imul, 1), (56, .putfield 121, 3), (59, .aload_n 0, 1), (60, .dup, 1), (61, .getfield 78, 3), (64, .aload 4, 2), (66, .getfield 121, 3), (69, .isub, 1), (70, .putfield 78, 3), (73, .aload_n 0, 1), (74, .invokevirtual 123, 3), (77, .return_, 1)]
theorem D_X1_startCompany_0 : zDk cX1_startCompany T_X1_startCompany_0 = true := by decide +kernel
def T_X1_canBuy_0 : zTb := [(0, .aload_n 0, 1), (1, .getfield 20, 3), (4, .iload_n 1, 1), (5, .aaload, 1), (6, .astore_n 2, 1), (7, .aload_n 0, 1), (8, .getfield 72, 3), (11, .ifCond .ne 51, 3), (14, .aload_n 2, 1), (15, .getfield 97, 3), (18, .ifCond .eq 44, 3), (21, .aload_n 2, 1), (22, .invokevirtual 126, 3), (25, .ifCond .le 37, 3), (28, .aload_n 2, 1), (29, .getfield 115, 3), (32, .aload_n 0, 1), (33, .getfield 66, 3), (36, .iaload, 1), (37, .bipush 6, 2), (39, .if_icmp .ge 23, 3), (42, .aload_n 0, 1), (43, .getfield 24, 3), (46, .aload_n 0, 1), (47, .getfield 66, 3), (50, .iaload, 1), (51, .aload_n 2, 1), (52, .invokevirtual 108, 3), (55, .if_icmp .lt 7, 3), (58, .iconst 1, 1), (59, .goto 4, 3), (62, .iconst 0, 1), (63, .ireturn, 1)]
theorem D_X1_canBuy_0 : zDk cX1_canBuy T_X1_canBuy_0 = true := by decide +kernel
def T_X1_buyShare_0 : zTb := [(0, .aload_n 0, 1), (1, .getfield 20, 3), (4, .iload_n 1, 1), (5, .aaload, 1), (6, .astore_n 2, 1), (7, .aload_n 0, 1), (8, .aload_n 0, 1), (9, .getfield 66, 3), (12, .aload_n 2, 1), (13, .invokevirtual 108, 3), (16, .invokevirtual 112, 3), (19, .aload_n 2, 1), (20, .getfield 115, 3), (23, .aload_n 0, 1), (24, .getfield 66, 3), (27, .dup2, 1), (28, .iaload, 1), (29, .iconst 1, 1), (30, .iadd, 1), (31, .iastore, 1), (32, .aload_n 2, 1), (33, .invokevirtual 118, 3), (36, .aload_n 2, 1), (37, .getfield 115, 3), (40, .aload_n 0, 1), (41, .getfield 66, 3), (44, .iaload, 1), (45, .istore_n 3, 1), (46, .aload_n 0, 1), (47, .invokevirtual 123, 3), (50, .iload_n 3, 1), (51, .ireturn, 1)]
theorem D_X1_buyShare_0 : zDk cX1_buyShare T_X1_buyShare_0 = true := by decide +kernel
def T_X1_canSell_0 : zTb := [(0, .aload_n 0, 1), (1, .getfield 20, 3), (4, .iload_n 1, 1), (5, .aaload, 1), (6, .astore_n 3, 1), (7, .aload_n 0, 1), (8, .getfield 72, 3), (11, .ifCond .ne 27, 3), (14, .aload_n 3, 1), (15, .getfield 97, 3), (18, .ifCond .eq 20, 3), (21, .aload_n 3, 1), (22, .getfield 115, 3), (25, .aload_n 0, 1), (26, .getfield 66, 3), (29, .iaload, 1), (30, .iload_n 2, 1), (31, .if_icmp .lt 7, 3), (34, .iconst 1, 1), (35, .goto 4, 3), (38, .iconst 0, 1), (39, .ireturn, 1)]
theorem D_X1_canSell_0 : zDk cX1_canSell T_X1_canSell_0 = true := by decide +kernel
def T_X1_sellShares_0 : zTb := [(0, .aload_n 0, 1), (1, .getfield 20, 3), (4, .iload_n 2, 1), (5, .aaload, 1), (6, .astore 4, 2), (8, .aload_n 0, 1), (9, .iload_n 1, 1), (10, .iload_n 3, 1), (11, .ineg, 1), (12, .aload 4, 2), (14, .getfield 129, 3), (17, .invokestatic 100, 3), (20, .imul, 1), (21, .invokevirtual 112, 3), (24, .aload 4, 2), (26, .getfield 115, 3), (29, .iload_n 1, 1), (30, .dup2, 1), (31, .iaload, 1), (32, .iload_n 3, 1), (33, .isub, 1), (34, .iastore, 1), (35, .aload 4, 2), (37, .invokevirtual 132, 3), (40, .aload 4, 2), (42, .invokevirtual 118, 3), (45, .return_, 1)]
theorem D_X1_sellShares_0 : zDk cX1_sellShares T_X1_sellShares_0 = true := by decide +kernel
def T_X1_canMerge_0 : zTb := [(0, .aload_n 0, 1), (1, .getfield 20, 3), (4, .iload_n 1, 1), (5, .aaload, 1), (6, .astore_n 3, 1), (7, .aload_n 0, 1), (8, .getfield 20, 3), (11, .iload_n 2, 1), (12, .aaload, 1), (13, .astore 4, 2), (15, .aload_n 0, 1), (16, .getfield 72, 3), (19, .ifCond .ne 57, 3), (22, .aload_n 3, 1), (23, .getfield 97, 3), (26, .ifCond .eq 50, 3), (29, .aload 4, 2), (31, .getfield 97, 3), (34, .ifCond .eq 42, 3), (37, .aload_n 3, 1), (38, .getfield 135, 3), (41, .aload_n 0, 1), (42, .getfield 66, 3), (45, .if_icmp .ne 31, 3), (48, .aload 4, 2), (50, .getfield 135, 3), (53, .aload_n 0, 1), (54, .getfield 66, 3), (57, .if_icmp .ne 19, 3), (60, .aload_n 3, 1), (61, .invokevirtual 126, 3), (64, .aload 4, 2), (66, .invokevirtual 138, 3), (69, .if_icmp .lt 7, 3), (72, .iconst 1, 1), (73, .goto 4, 3), (76, .iconst 0, 1), (77, .ireturn, 1)]
theorem D_X1_canMerge_0 : zDk cX1_canMerge T_X1_canMerge_0 = true := by decide +kernel
def T_X1_mergeCompanies_0 : zTb := [(0, .aload_n 0, 1), (1, .getfield 20, 3), (4, .iload_n 1, 1), (5, .aaload, 1), (6, .astore_n 3, 1), (7, .aload_n 0, 1), (8, .getfield 20, 3), (11, .iload_n 2, 1), (12, .aaload, 1), (13, .astore 4, 2), (15, .aload 4, 2), (17, .invokevirtual 108, 3), (20, .iconst 2, 1), (21, .idiv, 1), (22, .istore 5, 2), (24, .iconst 0, 1), (25, .istore 6, 2), (27, .iload 6, 2), (29, .aload_n 0, 1), (30, .getfield 63, 3), (33, .if_icmp .ge 47, 3), (36, .aload 4, 2), (38, .getfield 115, 3), (41, .iload 6, 2), (43, .iaload, 1), (44, .istore 7, 2), (46, .aload_n 3, 1), (47, .getfield 115, 3), (50, .iload 6, 2), (52, .dup2, 1), (53, .iaload, 1), (54, .iload 7, 2), (56, .iconst 2, 1), (57, .idiv, 1), (58, .iadd, 1), (59, .iastore, 1), (60, .aload_n 0, 1), (61, .iload 6, 2), (63, .iload 7, 2), (65, .iconst 2, 1), (66, .irem, 1), (67, .ineg, 1), (68, .iload 5, 2), (70, .imul, 1), (71, .invokevirtual 112, 3), (74, .iinc 6 1, 3), (77, .goto (-50), 3), (80, .aload_n 3, 1), (81, .dup, 1), (82, .getfield 121, 3), (85, .aload 4, 2), (87, .getfield 121, 3), (90, .iadd, 1), (91, .putfield 121, 3), (94, .aload 4, 2), (96, .invokevirtual 43, 3), (99, .aload_n 3, 1), (100, .invokevirtual 118, 3), (103, .aload_n 0, 1), (104, .invokevirtual 123, 3)]
theorem D_X1_mergeCompanies_0 : zDk cX1_mergeCompanies T_X1_mergeCompanies_0 = true := by decide +kernel
def T_X1_mergeCompanies_1 : zTb := [(107, .return_, 1)]
theorem D_X1_mergeCompanies_1 : zDk cX1_mergeCompanies T_X1_mergeCompanies_1 = true := by decide +kernel
def T_X1_passTurn_0 : zTb := [(0, .aload_n 0, 1), (1, .dup, 1), (2, .getfield 69, 3), (5, .iconst 1, 1), (6, .iadd, 1), (7, .putfield 69, 3), (10, .aload_n 0, 1), (11, .invokevirtual 141, 3), (14, .aload_n 0, 1), (15, .getfield 69, 3), (18, .aload_n 0, 1), (19, .getfield 63, 3), (22, .if_icmp .lt 7, 3), (25, .aload_n 0, 1), (26, .invokevirtual 144, 3), (29, .return_, 1)]
theorem D_X1_passTurn_0 : zDk cX1_passTurn T_X1_passTurn_0 = true := by decide +kernel
def T_X1_endActiveTurn_0 : zTb := [(0, .aload_n 0, 1), (1, .iconst 0, 1), (2, .putfield 69, 3), (5, .aload_n 0, 1), (6, .invokevirtual 141, 3), (9, .return_, 1)]
theorem D_X1_endActiveTurn_0 : zDk cX1_endActiveTurn T_X1_endActiveTurn_0 = true := by decide +kernel
def T_X1_nextTurn_0 : zTb := [(0, .aload_n 0, 1), (1, .aload_n 0, 1), (2, .getfield 66, 3), (5, .iconst 1, 1), (6, .iadd, 1), (7, .aload_n 0, 1), (8, .getfield 63, 3), (11, .if_icmp .ge 12, 3), (14, .aload_n 0, 1), (15, .getfield 66, 3), (18, .iconst 1, 1), (19, .iadd, 1), (20, .goto 4, 3), (23, .iconst 0, 1), (24, .putfield 66, 3), (27, .return_, 1)]
theorem D_X1_nextTurn_0 : zDk cX1_nextTurn T_X1_nextTurn_0 = true := by decide +kernel
def T_X1_playerPays_0 : zTb := [(0, .aload_n 0, 1), (1, .getfield 24, 3), (4, .iload_n 1, 1), (5, .dup2, 1), (6, .iaload, 1), (7, .iload_n 2, 1), (8, .isub, 1), (9, .iastore, 1), (10, .aload_n 0, 1), (11, .dup, 1), (12, .getfield 78, 3), (15, .iload_n 2, 1), (16, .iadd, 1), (17, .putfield 78, 3), (20, .return_, 1)]
theorem D_X1_playerPays_0 : zDk cX1_playerPays T_X1_playerPays_0 = true := by decide +kernel
def T_X1_companyPays_0 : zTb := [(0, .aload_n 1, 1), (1, .dup, 1), (2, .getfield 121, 3), (5, .iload_n 2, 1), (6, .isub, 1), (7, .putfield 121, 3), (10, .aload_n 0, 1), (11, .dup, 1), (12, .getfield 78, 3), (15, .iload_n 2, 1), (16, .iadd, 1), (17, .putfield 78, 3), (20, .return_, 1)]
theorem D_X1_companyPays_0 : zDk cX1_companyPays T_X1_companyPays_0 = true := by decide +kernel
def T_X1_beginOperating_0 : zTb := [(0, .aload_n 0, 1), (1, .iconst 1, 1), (2, .putfield 72, 3), (5, .aload_n 0, 1), (6, .iconst 0, 1), (7, .putfield 59, 3), (10, .aload_n 0, 1), (11, .iconst 0, 1), (12, .putfield 56, 3), (15, .aload_n 0, 1), (16, .iconst 0, 1), (17, .putfield 52, 3), (20, .iconst 0, 1), (21, .istore_n 1, 1), (22, .iload_n 1, 1), (23, .iconst 4, 1), (24, .if_icmp .ge 26, 3), (27, .aload_n 0, 1), (28, .getfield 20, 3), (31, .iload_n 1, 1), (32, .aaload, 1), (33, .getfield 97, 3), (36, .ifCond .eq 8, 3), (39, .aload_n 0, 1), (40, .iload_n 1, 1), (41, .invokevirtual 147, 3), (44, .iinc 1 1, 3), (47, .goto (-25), 3), (50, .aload_n 0, 1), (51, .invokevirtual 150, 3), (54, .return_, 1)]
theorem D_X1_beginOperating_0 : zDk cX1_beginOperating T_X1_beginOperating_0 = true := by decide +kernel
def T_X1_putInOrder_0 : zTb := [(0, .aload_n 0, 1), (1, .getfield 52, 3), (4, .istore_n 2, 1), (5, .iload_n 2, 1), (6, .ifCond .le 51, 3), (9, .aload_n 0, 1), (10, .getfield 20, 3), (13, .aload_n 0, 1), (14, .getfield 28, 3), (17, .iload_n 2, 1), (18, .iconst 1, 1), (19, .isub, 1), (20, .iaload, 1), (21, .aaload, 1), (22, .getfield 129, 3), (25, .aload_n 0, 1), (26, .getfield 20, 3), (29, .iload_n 1, 1), (30, .aaload, 1), (31, .getfield 129, 3), (34, .if_icmp .ge 23, 3), (37, .aload_n 0, 1), (38, .getfield 28, 3), (41, .iload_n 2, 1), (42, .aload_n 0, 1), (43, .getfield 28, 3), (46, .iload_n 2, 1), (47, .iconst 1, 1), (48, .isub, 1), (49, .iaload, 1), (50, .iastore, 1), (51, .iinc 2 (-1), 3), (54, .goto (-49), 3), (57, .aload_n 0, 1), (58, .getfield 28, 3), (61, .iload_n 2, 1), (62, .iload_n 1, 1), (63, .iastore, 1), (64, .aload_n 0, 1), (65, .dup, 1), (66, .getfield 52, 3), (69, .iconst 1, 1), (70, .iadd, 1), (71, .putfield 52, 3), (74, .return_, 1)]
theorem D_X1_putInOrder_0 : zDk cX1_putInOrder T_X1_putInOrder_0 = true := by decide +kernel
def T_X1_endOperatingIfOver_0 : zTb := [(0, .aload_n 0, 1), (1, .getfield 56, 3), (4, .aload_n 0, 1), (5, .getfield 52, 3), (8, .if_icmp .lt 23, 3), (11, .aload_n 0, 1), (12, .iconst 0, 1), (13, .putfield 72, 3), (16, .aload_n 0, 1), (17, .iconst 0, 1), (18, .putfield 69, 3), (21, .aload_n 0, 1), (22, .dup, 1), (23, .getfield 75, 3), (26, .iconst 1, 1), (27, .iadd, 1), (28, .putfield 75, 3), (31, .return_, 1)]
theorem D_X1_endOperatingIfOver_0 : zDk cX1_endOperatingIfOver T_X1_endOperatingIfOver_0 = true := by decide +kernel
def T_X1_nextCompany_0 : zTb := [(0, .aload_n 0, 1), (1, .getfield 72, 3), (4, .ifCond .eq 26, 3), (7, .aload_n 0, 1), (8, .getfield 56, 3), (11, .aload_n 0, 1), (12, .getfield 52, 3), (15, .if_icmp .ge 15, 3), (18, .aload_n 0, 1), (19, .getfield 28, 3), (22, .aload_n 0, 1), (23, .getfield 56, 3), (26, .iaload, 1), (27, .goto 4, 3), (30, .iconst (-1), 1), (31, .ireturn, 1)]
theorem D_X1_nextCompany_0 : zDk cX1_nextCompany T_X1_nextCompany_0 = true := by decide +kernel
def T_X1_canExtend_0 : zTb := [(0, .aload_n 0, 1), (1, .invokevirtual 153, 3), (4, .istore_n 1, 1), (5, .iload_n 1, 1), (6, .iconst (-1), 1), (7, .if_icmp .eq 10, 3), (10, .aload_n 0, 1), (11, .getfield 59, 3), (14, .ifCond .eq 5, 3), (17, .iconst 0, 1), (18, .ireturn, 1), (19, .aload_n 0, 1), (20, .getfield 20, 3), (23, .iload_n 1, 1), (24, .aaload, 1), (25, .astore_n 2, 1), (26, .aload_n 2, 1), (27, .getfield 156, 3), (30, .iconst 5, 1), (31, .if_icmp .ge 16, 3), (34, .aload_n 2, 1), (35, .getfield 121, 3), (38, .bipush 60, 2), (40, .if_icmp .lt 7, 3), (43, .iconst 1, 1), (44, .goto 4, 3), (47, .iconst 0, 1), (48, .ireturn, 1)]
theorem D_X1_canExtend_0 : zDk cX1_canExtend T_X1_canExtend_0 = true := by decide +kernel
def T_X1_extendNext_0 : zTb := [(0, .aload_n 0, 1), (1, .invokevirtual 153, 3), (4, .istore_n 1, 1), (5, .iload_n 1, 1), (6, .iconst (-1), 1), (7, .if_icmp .ne 5, 3), (10, .iconst (-1), 1), (11, .ireturn, 1), (12, .aload_n 0, 1), (13, .getfield 20, 3), (16, .iload_n 1, 1), (17, .aaload, 1), (18, .astore_n 2, 1), (19, .aload_n 0, 1), (20, .aload_n 2, 1), (21, .bipush 60, 2), (23, .invokevirtual 159, 3), (26, .aload_n 2, 1), (27, .dup, 1), (28, .getfield 156, 3), (31, .iconst 1, 1), (32, .iadd, 1), (33, .putfield 156, 3), (36, .aload_n 0, 1), (37, .iconst 1, 1), (38, .putfield 59, 3), (41, .aload_n 2, 1), (42, .getfield 156, 3), (45, .ireturn, 1)]
theorem D_X1_extendNext_0 : zDk cX1_extendNext T_X1_extendNext_0 = true := by decide +kernel
def T_X1_canOperate_0 : zTb := [(0, .aload_n 0, 1), (1, .invokevirtual 153, 3), (4, .istore_n 3, 1), (5, .iload_n 3, 1), (6, .iconst (-1), 1), (7, .if_icmp .ne 5, 3), (10, .iconst 0, 1), (11, .ireturn, 1), (12, .iload_n 1, 1), (13, .iconst (-1), 1), (14, .if_icmp .ne 8, 3), (17, .iload_n 2, 1), (18, .iconst (-1), 1), (19, .if_icmp .eq 7, 3), (22, .iconst 1, 1), (23, .goto 4, 3), (26, .iconst 0, 1), (27, .istore 4, 2), (29, .iload 4, 2), (31, .ifCond .eq 18, 3), (34, .aload_n 0, 1), (35, .aload_n 0, 1), (36, .getfield 20, 3), (39, .iload_n 3, 1), (40, .aaload, 1), (41, .iload_n 1, 1), (42, .iload_n 2, 1), (43, .invokevirtual 163, 3), (46, .ifCond .eq 7, 3), (49, .iconst 1, 1), (50, .goto 4, 3), (53, .iconst 0, 1), (54, .ireturn, 1)]
theorem D_X1_canOperate_0 : zDk cX1_canOperate T_X1_canOperate_0 = true := by decide +kernel
def T_X1_canLay_0 : zTb := [(0, .iload_n 2, 1), (1, .invokestatic 167, 3), (4, .ifCond .eq 15, 3), (7, .iload_n 3, 1), (8, .invokestatic 167, 3), (11, .ifCond .eq 8, 3), (14, .iload_n 2, 1), (15, .iload_n 3, 1), (16, .if_icmp .ne 5, 3), (19, .iconst 0, 1), (20, .ireturn, 1), (21, .aload_n 0, 1), (22, .getfield 12, 3), (25, .getfield 171, 3), (28, .iload_n 2, 1), (29, .aaload, 1), (30, .iload_n 3, 1), (31, .iaload, 1), (32, .istore 4, 2), (34, .iload 4, 2), (36, .iconst 2, 1), (37, .if_icmp .ge 17, 3), (40, .aload_n 1, 1), (41, .getfield 121, 3), (44, .bipush 20, 2), (46, .iload 4, 2), (48, .iconst 1, 1), (49, .iadd, 1), (50, .imul, 1), (51, .if_icmp .ge 5, 3), (54, .iconst 0, 1), (55, .ireturn, 1), (56, .aload_n 0, 1), (57, .getfield 31, 3), (60, .aload_n 0, 1), (61, .getfield 12, 3), (64, .aload_n 1, 1), (65, .getfield 175, 3), (68, .invokevirtual 178, 3), (71, .aload_n 0, 1), (72, .getfield 31, 3), (75, .iload_n 2, 1), (76, .invokevirtual 184, 3), (79, .ifCond .ne 14, 3), (82, .aload_n 0, 1), (83, .getfield 31, 3), (86, .iload_n 3, 1), (87, .invokevirtual 184, 3), (90, .ifCond .eq 7, 3), (93, .iconst 1, 1), (94, .goto 4, 3), (97, .iconst 0, 1), (98, .ireturn, 1)]
theorem D_X1_canLay_0 : zDk cX1_canLay T_X1_canLay_0 = true := by decide +kernel
def T_X1_operateNext_0 : zTb := [(0, .aload_n 0, 1), (1, .invokevirtual 153, 3), (4, .istore 4, 2), (6, .iload 4, 2), (8, .iconst (-1), 1), (9, .if_icmp .ne 5, 3), (12, .iconst 0, 1), (13, .ireturn, 1), (14, .aload_n 0, 1), (15, .getfield 20, 3), (18, .iload 4, 2), (20, .aaload, 1), (21, .astore 5, 2), (23, .iload_n 1, 1), (24, .iconst (-1), 1), (25, .if_icmp .eq 50, 3), (28, .iload_n 2, 1), (29, .iconst (-1), 1), (30, .if_icmp .eq 45, 3), (33, .aload_n 0, 1), (34, .getfield 12, 3), (37, .iload_n 1, 1), (38, .iload_n 2, 1), (39, .aload_n 0, 1), (40, .getfield 12, 3), (43, .getfield 171, 3), (46, .iload_n 1, 1), (47, .aaload, 1), (48, .iload_n 2, 1), (49, .iaload, 1), (50, .iconst 1, 1), (51, .iadd, 1), (52, .invokevirtual 187, 3), (55, .aload_n 0, 1), (56, .aload 5, 2), (58, .bipush 20, 2), (60, .aload_n 0, 1), (61, .getfield 12, 3), (64, .getfield 171, 3), (67, .iload_n 1, 1), (68, .aaload, 1), (69, .iload_n 2, 1), (70, .iaload, 1), (71, .imul, 1), (72, .invokevirtual 159, 3), (75, .aload_n 0, 1), (76, .aload 5, 2), (78, .invokevirtual 191, 3), (81, .istore 6, 2), (83, .aload 5, 2), (85, .iload 6, 2), (87, .putfield 195, 3), (90, .iload_n 3, 1), (91, .ifCond .eq 14, 3), (94, .aload_n 0, 1), (95, .aload 5, 2), (97, .iload 6, 2), (99, .invokevirtual 198, 3), (102, .goto 17, 3), (105, .aload_n 0, 1)]
theorem D_X1_operateNext_0 : zDk cX1_operateNext T_X1_operateNext_0 = true := by decide +kernel
def T_X1_operateNext_1 : zTb := [(106, .aload 5, 2), (108, .iload 6, 2), (110, .ineg, 1), (111, .invokevirtual 159, 3), (114, .aload 5, 2), (116, .invokevirtual 132, 3), (119, .aload_n 0, 1), (120, .aload 5, 2), (122, .invokevirtual 201, 3), (125, .aload_n 0, 1), (126, .iconst 0, 1), (127, .putfield 59, 3), (130, .aload_n 0, 1), (131, .dup, 1), (132, .getfield 56, 3), (135, .iconst 1, 1), (136, .iadd, 1), (137, .putfield 56, 3), (140, .aload_n 0, 1), (141, .invokevirtual 150, 3), (144, .iload 6, 2), (146, .ireturn, 1)]
theorem D_X1_operateNext_1 : zDk cX1_operateNext T_X1_operateNext_1 = true := by decide +kernel
def T_X1_payOut_0 : zTb := [(0, .iconst 0, 1), (1, .istore_n 3, 1), (2, .iload_n 3, 1), (3, .aload_n 0, 1), (4, .getfield 63, 3), (7, .if_icmp .ge 26, 3), (10, .aload_n 0, 1), (11, .iload_n 3, 1), (12, .aload_n 1, 1), (13, .getfield 115, 3), (16, .iload_n 3, 1), (17, .iaload, 1), (18, .iload_n 2, 1), (19, .bipush 10, 2), (21, .idiv, 1), (22, .imul, 1), (23, .ineg, 1), (24, .invokevirtual 112, 3), (27, .iinc 3 1, 3), (30, .goto (-28), 3), (33, .iload_n 2, 1), (34, .ifCond .le 10, 3), (37, .aload_n 1, 1), (38, .invokevirtual 204, 3), (41, .goto 7, 3), (44, .aload_n 1, 1), (45, .invokevirtual 132, 3), (48, .return_, 1)]
theorem D_X1_payOut_0 : zDk cX1_payOut T_X1_payOut_0 = true := by decide +kernel
def T_X1_payUpkeep_0 : zTb := [(0, .iconst 5, 1), (1, .aload_n 1, 1), (2, .getfield 156, 3), (5, .imul, 1), (6, .istore_n 2, 1), (7, .iload_n 2, 1), (8, .aload_n 1, 1), (9, .getfield 121, 3), (12, .invokestatic 207, 3), (15, .istore_n 3, 1), (16, .aload_n 0, 1), (17, .aload_n 1, 1), (18, .iload_n 3, 1), (19, .invokevirtual 159, 3), (22, .iload_n 2, 1), (23, .iload_n 3, 1), (24, .isub, 1), (25, .istore 4, 2), (27, .iload 4, 2), (29, .ifCond .le 26, 3), (32, .aload_n 1, 1), (33, .getfield 135, 3), (36, .iconst (-1), 1), (37, .if_icmp .eq 18, 3), (40, .iload 4, 2), (42, .aload_n 0, 1), (43, .aload_n 1, 1), (44, .getfield 135, 3), (47, .iload 4, 2), (49, .invokevirtual 213, 3), (52, .isub, 1), (53, .istore 4, 2), (55, .iload 4, 2), (57, .ifCond .le 26, 3), (60, .aload_n 0, 1), (61, .aload_n 1, 1), (62, .aload_n 1, 1), (63, .getfield 121, 3), (66, .invokevirtual 159, 3), (69, .aload_n 1, 1), (70, .invokevirtual 43, 3), (73, .aload_n 0, 1), (74, .dup, 1), (75, .getfield 81, 3), (78, .iconst 1, 1), (79, .iadd, 1), (80, .putfield 81, 3), (83, .return_, 1)]
theorem D_X1_payUpkeep_0 : zDk cX1_payUpkeep T_X1_payUpkeep_0 = true := by decide +kernel
def T_X1_payRest_0 : zTb := [(0, .iconst 0, 1), (1, .istore_n 3, 1), (2, .iload_n 3, 1), (3, .bipush 40, 2), (5, .if_icmp .ge 43, 3), (8, .aload_n 0, 1), (9, .getfield 24, 3), (12, .iload_n 1, 1), (13, .iaload, 1), (14, .iload_n 2, 1), (15, .if_icmp .ge 33, 3), (18, .aload_n 0, 1), (19, .iload_n 1, 1), (20, .invokevirtual 216, 3), (23, .istore 4, 2), (25, .iload 4, 2), (27, .iconst (-1), 1), (28, .if_icmp .ne 6, 3), (31, .goto 17, 3), (34, .aload_n 0, 1), (35, .iload_n 1, 1), (36, .iload 4, 2), (38, .iconst 1, 1), (39, .invokevirtual 219, 3), (42, .iinc 3 1, 3), (45, .goto (-43), 3), (48, .iload_n 2, 1), (49, .aload_n 0, 1), (50, .getfield 24, 3), (53, .iload_n 1, 1), (54, .iaload, 1), (55, .invokestatic 207, 3), (58, .istore_n 3, 1), (59, .aload_n 0, 1), (60, .iload_n 1, 1), (61, .iload_n 3, 1), (62, .invokevirtual 112, 3), (65, .iload_n 3, 1), (66, .ireturn, 1)]
theorem D_X1_payRest_0 : zDk cX1_payRest T_X1_payRest_0 = true := by decide +kernel
def T_X1_cheapestHeld_0 : zTb := [(0, .iconst (-1), 1), (1, .istore_n 2, 1), (2, .iconst 0, 1), (3, .istore_n 3, 1), (4, .iload_n 3, 1), (5, .iconst 4, 1), (6, .if_icmp .ge 59, 3), (9, .aload_n 0, 1), (10, .getfield 20, 3), (13, .iload_n 3, 1), (14, .aaload, 1), (15, .astore 4, 2), (17, .aload 4, 2), (19, .getfield 97, 3), (22, .ifCond .eq 37, 3), (25, .aload 4, 2), (27, .getfield 115, 3), (30, .iload_n 1, 1), (31, .iaload, 1), (32, .ifCond .le 27, 3), (35, .iload_n 2, 1), (36, .iconst (-1), 1), (37, .if_icmp .eq 20, 3), (40, .aload 4, 2), (42, .getfield 129, 3), (45, .aload_n 0, 1), (46, .getfield 20, 3), (49, .iload_n 2, 1), (50, .aaload, 1), (51, .getfield 129, 3), (54, .if_icmp .ge 5, 3), (57, .iload_n 3, 1), (58, .istore_n 2, 1), (59, .iinc 3 1, 3), (62, .goto (-58), 3), (65, .iload_n 2, 1), (66, .ireturn, 1)]
theorem D_X1_cheapestHeld_0 : zDk cX1_cheapestHeld T_X1_cheapestHeld_0 = true := by decide +kernel
def T_X1_incomeOf_0 : zTb := [(0, .aload_n 0, 1), (1, .getfield 31, 3), (4, .aload_n 0, 1), (5, .getfield 12, 3), (8, .aload_n 1, 1), (9, .getfield 175, 3), (12, .aload_n 1, 1), (13, .getfield 156, 3), (16, .invokevirtual 222, 3), (19, .aload_n 0, 1), (20, .getfield 31, 3), (23, .invokevirtual 226, 3), (26, .ireturn, 1)]
theorem D_X1_incomeOf_0 : zDk cX1_incomeOf T_X1_incomeOf_0 = true := by decide +kernel
def T_X1_incomeIfRaised_0 : zTb := [(0, .aload_n 0, 1), (1, .getfield 12, 3), (4, .getfield 171, 3), (7, .iload_n 2, 1), (8, .aaload, 1), (9, .iload_n 3, 1), (10, .iaload, 1), (11, .istore 4, 2), (13, .aload_n 0, 1), (14, .getfield 12, 3), (17, .iload_n 2, 1), (18, .iload_n 3, 1), (19, .iload 4, 2), (21, .iconst 1, 1), (22, .iadd, 1), (23, .invokevirtual 187, 3), (26, .aload_n 0, 1), (27, .aload_n 1, 1), (28, .invokevirtual 191, 3), (31, .istore 5, 2), (33, .aload_n 0, 1), (34, .getfield 12, 3), (37, .iload_n 2, 1), (38, .iload_n 3, 1), (39, .iload 4, 2), (41, .invokevirtual 187, 3), (44, .iload 5, 2), (46, .ireturn, 1)]
theorem D_X1_incomeIfRaised_0 : zDk cX1_incomeIfRaised T_X1_incomeIfRaised_0 = true := by decide +kernel
def T_X1_bestTrackOf_0 : zTb := [(0, .iconst (-1), 1), (1, .istore_n 2, 1), (2, .iconst (-1), 1), (3, .istore_n 3, 1), (4, .iconst 0, 1), (5, .istore 4, 2), (7, .iload 4, 2), (9, .bipush 8, 2), (11, .if_icmp .ge 80, 3), (14, .aload_n 1, 1), (15, .getfield 97, 3), (18, .ifCond .eq 73, 3), (21, .iload 4, 2), (23, .iconst 1, 1), (24, .iadd, 1), (25, .istore 5, 2), (27, .iload 5, 2), (29, .bipush 8, 2), (31, .if_icmp .ge 54, 3), (34, .aload_n 0, 1), (35, .aload_n 1, 1), (36, .iload 4, 2), (38, .iload 5, 2), (40, .invokevirtual 163, 3), (43, .ifCond .eq 15, 3), (46, .aload_n 0, 1), (47, .aload_n 1, 1), (48, .iload 4, 2), (50, .iload 5, 2), (52, .invokevirtual 229, 3), (55, .goto 4, 3), (58, .iconst (-1), 1), (59, .istore 6, 2), (61, .iload 6, 2), (63, .iload_n 3, 1), (64, .if_icmp .le 15, 3), (67, .iload 6, 2), (69, .istore_n 3, 1), (70, .bipush 10, 2), (72, .iload 4, 2), (74, .imul, 1), (75, .iload 5, 2), (77, .iadd, 1), (78, .istore_n 2, 1), (79, .iinc 5 1, 3), (82, .goto (-55), 3), (85, .iinc 4 1, 3), (88, .goto (-81), 3), (91, .iload_n 2, 1), (92, .ireturn, 1)]
theorem D_X1_bestTrackOf_0 : zDk cX1_bestTrackOf T_X1_bestTrackOf_0 = true := by decide +kernel
def T_X1_routeTown_0 : zTb := [(0, .aload_n 1, 1), (1, .getfield 97, 3), (4, .ifCond .ne 5, 3), (7, .iconst (-1), 1), (8, .ireturn, 1), (9, .aload_n 0, 1), (10, .getfield 31, 3), (13, .aload_n 0, 1), (14, .getfield 12, 3), (17, .aload_n 1, 1), (18, .getfield 175, 3), (21, .aload_n 1, 1), (22, .getfield 156, 3), (25, .invokevirtual 222, 3), (28, .aload_n 0, 1), (29, .getfield 31, 3), (32, .iload_n 2, 1), (33, .invokevirtual 233, 3), (36, .ireturn, 1)]
theorem D_X1_routeTown_0 : zDk cX1_routeTown T_X1_routeTown_0 = true := by decide +kernel
def T_X1_worthOf_0 : zTb := [(0, .aload_n 0, 1), (1, .getfield 24, 3), (4, .iload_n 1, 1), (5, .iaload, 1), (6, .istore_n 2, 1), (7, .iconst 0, 1), (8, .istore_n 3, 1), (9, .iload_n 3, 1), (10, .iconst 4, 1), (11, .if_icmp .ge 33, 3), (14, .iload_n 2, 1), (15, .aload_n 0, 1), (16, .getfield 20, 3), (19, .iload_n 3, 1), (20, .aaload, 1), (21, .getfield 115, 3), (24, .iload_n 1, 1), (25, .iaload, 1), (26, .aload_n 0, 1), (27, .getfield 20, 3), (30, .iload_n 3, 1), (31, .aaload, 1), (32, .invokevirtual 108, 3), (35, .imul, 1), (36, .iadd, 1), (37, .istore_n 2, 1), (38, .iinc 3 1, 3), (41, .goto (-32), 3), (44, .iload_n 2, 1), (45, .ireturn, 1)]
theorem D_X1_worthOf_0 : zDk cX1_worthOf T_X1_worthOf_0 = true := by decide +kernel
def T_X1_presidenciesOf_0 : zTb := [(0, .iconst 0, 1), (1, .istore_n 2, 1), (2, .iconst 0, 1), (3, .istore_n 3, 1), (4, .iload_n 3, 1), (5, .iconst 4, 1), (6, .if_icmp .ge 28, 3), (9, .aload_n 0, 1), (10, .getfield 20, 3), (13, .iload_n 3, 1), (14, .aaload, 1), (15, .getfield 135, 3), (18, .iload_n 1, 1), (19, .if_icmp .ne 9, 3), (22, .iload_n 2, 1), (23, .iconst 1, 1), (24, .iload_n 3, 1), (25, .ishl, 1), (26, .ior, 1), (27, .istore_n 2, 1), (28, .iinc 3 1, 3), (31, .goto (-27), 3), (34, .iload_n 2, 1), (35, .ireturn, 1)]
theorem D_X1_presidenciesOf_0 : zDk cX1_presidenciesOf T_X1_presidenciesOf_0 = true := by decide +kernel
def T_X1_openCompanies_0 : zTb := [(0, .iconst 0, 1), (1, .istore_n 1, 1), (2, .iconst 0, 1), (3, .istore_n 2, 1), (4, .iload_n 2, 1), (5, .iconst 4, 1), (6, .if_icmp .ge 29, 3), (9, .iload_n 1, 1), (10, .aload_n 0, 1), (11, .getfield 20, 3), (14, .iload_n 2, 1), (15, .aaload, 1), (16, .getfield 97, 3), (19, .ifCond .eq 7, 3), (22, .iconst 1, 1), (23, .goto 4, 3), (26, .iconst 0, 1), (27, .iadd, 1), (28, .istore_n 1, 1), (29, .iinc 2 1, 3), (32, .goto (-28), 3), (35, .iload_n 1, 1), (36, .ireturn, 1)]
theorem D_X1_openCompanies_0 : zDk cX1_openCompanies T_X1_openCompanies_0 = true := by decide +kernel
def T_X1_unsoldShares_0 : zTb := [(0, .iconst 0, 1), (1, .istore_n 1, 1), (2, .iconst 0, 1), (3, .istore_n 2, 1), (4, .iload_n 2, 1), (5, .iconst 4, 1), (6, .if_icmp .ge 37, 3), (9, .iload_n 1, 1), (10, .aload_n 0, 1), (11, .getfield 20, 3), (14, .iload_n 2, 1), (15, .aaload, 1), (16, .getfield 97, 3), (19, .ifCond .eq 15, 3), (22, .aload_n 0, 1), (23, .getfield 20, 3), (26, .iload_n 2, 1), (27, .aaload, 1), (28, .invokevirtual 126, 3), (31, .goto 4, 3), (34, .iconst 0, 1), (35, .iadd, 1), (36, .istore_n 1, 1), (37, .iinc 2 1, 3), (40, .goto (-36), 3), (43, .iload_n 1, 1), (44, .ireturn, 1)]
theorem D_X1_unsoldShares_0 : zDk cX1_unsoldShares T_X1_unsoldShares_0 = true := by decide +kernel
def T_X1_number_0 : zTb := [(0, .iload_n 1, 1), (1, .tableswitch 107 0 8 #[51, 56, 61, 66, 79, 84, 89, 94, 102], 51), (52, .aload_n 0, 1), (53, .getfield 63, 3), (56, .ireturn, 1), (57, .aload_n 0, 1), (58, .getfield 66, 3), (61, .ireturn, 1), (62, .aload_n 0, 1), (63, .getfield 69, 3), (66, .ireturn, 1), (67, .aload_n 0, 1), (68, .getfield 72, 3), (71, .ifCond .eq 7, 3), (74, .iconst 1, 1), (75, .goto 4, 3), (78, .iconst 0, 1), (79, .ireturn, 1), (80, .aload_n 0, 1), (81, .invokevirtual 153, 3), (84, .ireturn, 1), (85, .aload_n 0, 1), (86, .getfield 75, 3), (89, .ireturn, 1), (90, .aload_n 0, 1), (91, .getfield 78, 3), (94, .ireturn, 1), (95, .aload_n 0, 1), (96, .getfield 12, 3), (99, .invokevirtual 236, 3), (102, .ireturn, 1), (103, .aload_n 0, 1), (104, .invokevirtual 239, 3), (107, .ireturn, 1), (108, .aload_n 0, 1), (109, .getfield 81, 3), (112, .ireturn, 1)]
theorem D_X1_number_0 : zDk cX1_number T_X1_number_0 = true := by decide +kernel
def T_X2_init_0 : zTb := [(0, .aload_n 0, 1), (1, .invokespecial 3, 3), (4, .aload_n 0, 1), (5, .bipush 8, 2), (7, .newarray .int, 2), (9, .putfield 9, 3), (12, .aload_n 0, 1), (13, .bipush 8, 2), (15, .bipush 8, 2), (17, .multianewarray 15 2, 4), (21, .putfield 17, 3), (24, .iconst 0, 1), (25, .istore_n 1, 1), (26, .iload_n 1, 1), (27, .bipush 8, 2), (29, .if_icmp .ge 24, 3), (32, .aload_n 0, 1), (33, .getfield 9, 3), (36, .iload_n 1, 1), (37, .bipush 10, 2), (39, .bipush 10, 2), (41, .iload_n 1, 1), (42, .iconst 4, 1), (43, .irem, 1), (44, .imul, 1), (45, .iadd, 1), (46, .iastore, 1), (47, .iinc 1 1, 3), (50, .goto (-24), 3), (53, .return_, 1)]
theorem D_X2_init_0 : zDk cX2_init T_X2_init_0 = true := by decide +kernel
def T_X2_clearTracks_0 : zTb := [(0, .iconst 0, 1), (1, .istore_n 1, 1), (2, .iload_n 1, 1), (3, .bipush 8, 2), (5, .if_icmp .ge 19, 3), (8, .aload_n 0, 1), (9, .getfield 17, 3), (12, .iload_n 1, 1), (13, .aaload, 1), (14, .iconst 0, 1), (15, .invokestatic 20, 3), (18, .iinc 1 1, 3), (21, .goto (-19), 3), (24, .return_, 1)]
theorem D_X2_clearTracks_0 : zDk cX2_clearTracks T_X2_clearTracks_0 = true := by decide +kernel
def T_X2_copyFrom_0 : zTb := [(0, .aload_n 1, 1), (1, .getfield 9, 3), (4, .iconst 0, 1), (5, .aload_n 0, 1), (6, .getfield 9, 3), (9, .iconst 0, 1), (10, .bipush 8, 2), (12, .invokestatic 26, 3), (15, .iconst 0, 1), (16, .istore_n 2, 1), (17, .iload_n 2, 1), (18, .bipush 8, 2), (20, .if_icmp .ge 28, 3), (23, .aload_n 1, 1), (24, .getfield 17, 3), (27, .iload_n 2, 1), (28, .aaload, 1), (29, .iconst 0, 1), (30, .aload_n 0, 1), (31, .getfield 17, 3), (34, .iload_n 2, 1), (35, .aaload, 1), (36, .iconst 0, 1), (37, .bipush 8, 2), (39, .invokestatic 26, 3), (42, .iinc 2 1, 3), (45, .goto (-28), 3), (48, .return_, 1)]
theorem D_X2_copyFrom_0 : zDk cX2_copyFrom T_X2_copyFrom_0 = true := by decide +kernel
def T_X2_setLevel_0 : zTb := [(0, .aload_n 0, 1), (1, .getfield 17, 3), (4, .iload_n 1, 1), (5, .aaload, 1), (6, .iload_n 2, 1), (7, .iload_n 3, 1), (8, .iastore, 1), (9, .aload_n 0, 1), (10, .getfield 17, 3), (13, .iload_n 2, 1), (14, .aaload, 1), (15, .iload_n 1, 1), (16, .iload_n 3, 1), (17, .iastore, 1), (18, .return_, 1)]
theorem D_X2_setLevel_0 : zDk cX2_setLevel T_X2_setLevel_0 = true := by decide +kernel
def T_X2_tracks_0 : zTb := [(0, .iconst 0, 1), (1, .istore_n 1, 1), (2, .iconst 0, 1), (3, .istore_n 2, 1), (4, .iload_n 2, 1), (5, .bipush 8, 2), (7, .if_icmp .ge 44, 3), (10, .iload_n 2, 1), (11, .iconst 1, 1), (12, .iadd, 1), (13, .istore_n 3, 1), (14, .iload_n 3, 1), (15, .bipush 8, 2), (17, .if_icmp .ge 28, 3), (20, .iload_n 1, 1), (21, .aload_n 0, 1), (22, .getfield 17, 3), (25, .iload_n 2, 1), (26, .aaload, 1), (27, .iload_n 3, 1), (28, .iaload, 1), (29, .ifCond .le 7, 3), (32, .iconst 1, 1), (33, .goto 4, 3), (36, .iconst 0, 1), (37, .iadd, 1), (38, .istore_n 1, 1), (39, .iinc 3 1, 3), (42, .goto (-28), 3), (45, .iinc 2 1, 3), (48, .goto (-44), 3), (51, .iload_n 1, 1), (52, .ireturn, 1)]
theorem D_X2_tracks_0 : zDk cX2_tracks T_X2_tracks_0 = true := by decide +kernel
def T_X3_init_0 : zTb := [(0, .aload_n 0, 1), (1, .invokespecial 3, 3), (4, .aload_n 0, 1), (5, .bipush 8, 2), (7, .newarray .int, 2), (9, .putfield 9, 3), (12, .aload_n 0, 1), (13, .iconst 5, 1), (14, .newarray .int, 2), (16, .putfield 15, 3), (19, .aload_n 0, 1), (20, .iconst 5, 1), (21, .newarray .int, 2), (23, .putfield 18, 3), (26, .return_, 1)]
theorem D_X3_init_0 : zDk cX3_init T_X3_init_0 = true := by decide +kernel
def T_X3_measure_0 : zTb := [(0, .aload_n 0, 1), (1, .getfield 9, 3), (4, .bipush 8, 2), (6, .invokestatic 21, 3), (9, .aload_n 0, 1), (10, .getfield 9, 3), (13, .iload_n 2, 1), (14, .iconst 0, 1), (15, .iastore, 1), (16, .iconst 1, 1), (17, .istore_n 3, 1), (18, .iconst 1, 1), (19, .istore 4, 2), (21, .iload 4, 2), (23, .bipush 8, 2), (25, .if_icmp .ge 63, 3), (28, .iload_n 3, 1), (29, .ifCond .eq 59, 3), (32, .iconst 0, 1), (33, .istore_n 3, 1), (34, .iconst 0, 1), (35, .istore 5, 2), (37, .iload 5, 2), (39, .bipush 8, 2), (41, .if_icmp .ge 41, 3), (44, .aload_n 0, 1), (45, .getfield 9, 3), (48, .iload 5, 2), (50, .iaload, 1), (51, .iload 4, 2), (53, .iconst 1, 1), (54, .isub, 1), (55, .if_icmp .ne 21, 3), (58, .aload_n 0, 1), (59, .aload_n 1, 1), (60, .getfield 27, 3), (63, .iload 5, 2), (65, .aaload, 1), (66, .iload 4, 2), (68, .invokevirtual 33, 3), (71, .ifCond .eq 5, 3), (74, .iconst 1, 1), (75, .istore_n 3, 1), (76, .iinc 5 1, 3), (79, .goto (-42), 3), (82, .iinc 4 1, 3), (85, .goto (-64), 3), (88, .return_, 1)]
theorem D_X3_measure_0 : zDk cX3_measure T_X3_measure_0 = true := by decide +kernel
def T_X3_markNeighbours_0 : zTb := [(0, .iconst 0, 1), (1, .istore_n 3, 1), (2, .iconst 0, 1), (3, .istore 4, 2), (5, .iload 4, 2), (7, .bipush 8, 2), (9, .if_icmp .ge 38, 3), (12, .aload_n 1, 1), (13, .iload 4, 2), (15, .iaload, 1), (16, .ifCond .le 25, 3), (19, .aload_n 0, 1), (20, .getfield 9, 3), (23, .iload 4, 2), (25, .iaload, 1), (26, .bipush 8, 2), (28, .if_icmp .ne 13, 3), (31, .aload_n 0, 1), (32, .getfield 9, 3), (35, .iload 4, 2), (37, .iload_n 2, 1), (38, .iastore, 1), (39, .iconst 1, 1), (40, .istore_n 3, 1), (41, .iinc 4 1, 3), (44, .goto (-39), 3), (47, .iload_n 3, 1), (48, .ireturn, 1)]
theorem D_X3_markNeighbours_0 : zDk cX3_markNeighbours T_X3_markNeighbours_0 = true := by decide +kernel
def T_X3_reached_0 : zTb := [(0, .aload_n 0, 1), (1, .getfield 9, 3), (4, .iload_n 1, 1), (5, .iaload, 1), (6, .bipush 8, 2), (8, .if_icmp .ge 7, 3), (11, .iconst 1, 1), (12, .goto 4, 3), (15, .iconst 0, 1), (16, .ireturn, 1)]
theorem D_X3_reached_0 : zDk cX3_reached T_X3_reached_0 = true := by decide +kernel
def T_X3_find_0 : zTb := [(0, .aload_n 0, 1), (1, .aload_n 1, 1), (2, .iload_n 2, 1), (3, .invokevirtual 37, 3), (6, .aload_n 0, 1), (7, .aload_n 1, 1), (8, .putfield 41, 3), (11, .aload_n 0, 1), (12, .iconst 1, 1), (13, .iload_n 2, 1), (14, .ishl, 1), (15, .putfield 45, 3), (18, .aload_n 0, 1), (19, .iload_n 3, 1), (20, .iconst 5, 1), (21, .invokestatic 49, 3), (24, .putfield 55, 3), (27, .aload_n 0, 1), (28, .iconst 0, 1), (29, .putfield 58, 3), (32, .aload_n 0, 1), (33, .iconst (-1), 1), (34, .putfield 61, 3), (37, .iconst 0, 1), (38, .istore 4, 2), (40, .iload 4, 2), (42, .bipush 8, 2), (44, .if_icmp .ge 18, 3), (47, .aload_n 0, 1), (48, .iload 4, 2), (50, .iconst 0, 1), (51, .iconst 0, 1), (52, .iconst 0, 1), (53, .invokestatic 64, 3), (56, .iinc 4 1, 3), (59, .goto (-19), 3), (62, .return_, 1)]
theorem D_X3_find_0 : zDk cX3_find T_X3_find_0 = true := by decide +kernel
def T_X3_income_0 : zTb := [(0, .aload_n 0, 1), (1, .getfield 61, 3), (4, .iconst 0, 1), (5, .invokestatic 68, 3), (8, .ireturn, 1)]
theorem D_X3_income_0 : zDk cX3_income T_X3_income_0 = true := by decide +kernel
def T_X3_routeTown_0 : zTb := [(0, .iload_n 1, 1), (1, .ifCond .lt 20, 3), (4, .iload_n 1, 1), (5, .aload_n 0, 1), (6, .getfield 58, 3), (9, .if_icmp .ge 12, 3), (12, .aload_n 0, 1), (13, .getfield 18, 3), (16, .iload_n 1, 1), (17, .iaload, 1), (18, .goto 4, 3), (21, .iconst (-1), 1), (22, .ireturn, 1)]
theorem D_X3_routeTown_0 : zDk cX3_routeTown T_X3_routeTown_0 = true := by decide +kernel
def T_X3_grow_0 : zTb := [(0, .iload_n 2, 1), (1, .aload_n 0, 1), (2, .getfield 55, 3), (5, .if_icmp .lt 4, 3), (8, .return_, 1), (9, .iload_n 3, 1), (10, .iconst 1, 1), (11, .iload_n 1, 1), (12, .ishl, 1), (13, .ior, 1), (14, .istore 5, 2), (16, .aload_n 0, 1), (17, .getfield 55, 3), (20, .iload_n 2, 1), (21, .isub, 1), (22, .iconst 1, 1), (23, .isub, 1), (24, .istore 6, 2), (26, .iload 5, 2), (28, .aload_n 0, 1), (29, .getfield 45, 3), (32, .iand, 1), (33, .ifCond .eq 7, 3), (36, .iconst 1, 1), (37, .goto 4, 3), (40, .iconst 0, 1), (41, .istore 7, 2), (43, .iload 7, 2), (45, .ifCond .ne 15, 3), (48, .aload_n 0, 1), (49, .getfield 9, 3), (52, .iload_n 1, 1), (53, .iaload, 1), (54, .iload 6, 2), (56, .if_icmp .le 4, 3), (59, .return_, 1), (60, .aload_n 0, 1), (61, .getfield 15, 3), (64, .iload_n 2, 1), (65, .iload_n 1, 1), (66, .iastore, 1), (67, .iload 4, 2), (69, .aload_n 0, 1), (70, .getfield 41, 3), (73, .getfield 71, 3), (76, .iload_n 1, 1), (77, .iaload, 1), (78, .iadd, 1), (79, .istore 8, 2), (81, .iload 7, 2), (83, .ifCond .eq 25, 3), (86, .iload_n 2, 1), (87, .ifCond .le 21, 3), (90, .iload 8, 2), (92, .aload_n 0, 1), (93, .getfield 61, 3), (96, .if_icmp .le 12, 3), (99, .aload_n 0, 1), (100, .iload_n 2, 1), (101, .iconst 1, 1)]
theorem D_X3_grow_0 : zDk cX3_grow T_X3_grow_0 = true := by decide +kernel
def T_X3_grow_1 : zTb := [(102, .iadd, 1), (103, .iload 8, 2), (105, .invokevirtual 74, 3), (108, .aload_n 0, 1), (109, .getfield 41, 3), (112, .getfield 27, 3), (115, .iload_n 1, 1), (116, .aaload, 1), (117, .astore 9, 2), (119, .iconst 0, 1), (120, .istore 10, 2), (122, .iload 10, 2), (124, .bipush 8, 2), (126, .if_icmp .ge 64, 3), (129, .iload 6, 2), (131, .ifCond .le 59, 3), (134, .aload 9, 2), (136, .iload 10, 2), (138, .iaload, 1), (139, .ifCond .le 45, 3), (142, .iload 5, 2), (144, .iconst 1, 1), (145, .iload 10, 2), (147, .ishl, 1), (148, .iand, 1), (149, .ifCond .ne 35, 3), (152, .aload 9, 2), (154, .iload 10, 2), (156, .iaload, 1), (157, .iconst 2, 1), (158, .if_icmp .ne 7, 3), (161, .iconst 5, 1), (162, .goto 4, 3), (165, .iconst 0, 1), (166, .istore 11, 2), (168, .aload_n 0, 1), (169, .iload 10, 2), (171, .iload_n 2, 1), (172, .iconst 1, 1), (173, .iadd, 1), (174, .iload 5, 2), (176, .iload 8, 2), (178, .iload 11, 2), (180, .iadd, 1), (181, .invokestatic 64, 3), (184, .iinc 10 1, 3), (187, .goto (-65), 3), (190, .return_, 1)]
theorem D_X3_grow_1 : zDk cX3_grow T_X3_grow_1 = true := by decide +kernel
def T_X3_keep_0 : zTb := [(0, .aload_n 0, 1), (1, .getfield 15, 3), (4, .iconst 0, 1), (5, .aload_n 0, 1), (6, .getfield 18, 3), (9, .iconst 0, 1), (10, .iload_n 1, 1), (11, .invokestatic 78, 3), (14, .aload_n 0, 1), (15, .iload_n 1, 1), (16, .putfield 58, 3), (19, .aload_n 0, 1), (20, .iload_n 2, 1), (21, .putfield 61, 3), (24, .return_, 1)]
theorem D_X3_keep_0 : zDk cX3_keep T_X3_keep_0 = true := by decide +kernel
def T_X4_init_0 : zTb := [(0, .aload_n 0, 1), (1, .invokespecial 3, 3), (4, .aload_n 0, 1), (5, .bipush 90, 2), (7, .newarray .int, 2), (9, .putfield 9, 3), (12, .return_, 1)]
theorem D_X4_init_0 : zDk cX4_init T_X4_init_0 = true := by decide +kernel
def T_X4_add_0 : zTb := [(0, .aload_n 0, 1), (1, .getfield 15, 3), (4, .bipush 90, 2), (6, .if_icmp .ge 23, 3), (9, .aload_n 0, 1), (10, .getfield 9, 3), (13, .aload_n 0, 1), (14, .getfield 15, 3), (17, .iload_n 1, 1), (18, .iastore, 1), (19, .aload_n 0, 1), (20, .dup, 1), (21, .getfield 15, 3), (24, .iconst 1, 1), (25, .iadd, 1), (26, .putfield 15, 3), (29, .return_, 1)]
theorem D_X4_add_0 : zDk cX4_add T_X4_add_0 = true := by decide +kernel
def T_X4_sign_0 : zTb := [(0, .iload_n 1, 1), (1, .ifCond .lt 20, 3), (4, .iload_n 1, 1), (5, .aload_n 0, 1), (6, .getfield 15, 3), (9, .if_icmp .ge 12, 3), (12, .aload_n 0, 1), (13, .getfield 9, 3), (16, .iload_n 1, 1), (17, .iaload, 1), (18, .goto 4, 3), (21, .iconst (-1), 1), (22, .ireturn, 1)]
theorem D_X4_sign_0 : zDk cX4_sign T_X4_sign_0 = true := by decide +kernel
def T_X4_digit_0 : zTb := [(0, .aload_n 0, 1), (1, .iload_n 1, 1), (2, .invokevirtual 19, 3), (5, .istore_n 2, 1), (6, .iload_n 2, 1), (7, .bipush 48, 2), (9, .bipush 57, 2), (11, .invokestatic 23, 3), (14, .ifCond .eq 10, 3), (17, .iload_n 2, 1), (18, .bipush 48, 2), (20, .isub, 1), (21, .goto 4, 3), (24, .iconst (-1), 1), (25, .ireturn, 1)]
theorem D_X4_digit_0 : zDk cX4_digit T_X4_digit_0 = true := by decide +kernel
def T_X4_nextMove_0 : zTb := [(0, .iload_n 1, 1), (1, .istore_n 2, 1), (2, .iload_n 2, 1), (3, .aload_n 0, 1), (4, .getfield 15, 3), (7, .if_icmp .ge 20, 3), (10, .aload_n 0, 1), (11, .getfield 9, 3), (14, .iload_n 2, 1), (15, .iaload, 1), (16, .bipush 59, 2), (18, .if_icmp .eq 9, 3), (21, .iinc 2 1, 3), (24, .goto (-22), 3), (27, .iload_n 2, 1), (28, .iconst 1, 1), (29, .iadd, 1), (30, .ireturn, 1)]
theorem D_X4_nextMove_0 : zDk cX4_nextMove T_X4_nextMove_0 = true := by decide +kernel
def T_X4_errorPosition_0 : zTb := [(0, .iconst 0, 1), (1, .istore_n 1, 1), (2, .iconst 0, 1), (3, .istore_n 2, 1), (4, .iload_n 2, 1), (5, .aload_n 0, 1), (6, .getfield 15, 3), (9, .if_icmp .ge 35, 3), (12, .iload_n 1, 1), (13, .aload_n 0, 1), (14, .getfield 9, 3), (17, .iload_n 2, 1), (18, .iaload, 1), (19, .aload_n 0, 1), (20, .iload_n 2, 1), (21, .iconst 1, 1), (22, .isub, 1), (23, .invokevirtual 19, 3), (26, .invokestatic 27, 3), (29, .istore_n 1, 1), (30, .iload_n 1, 1), (31, .bipush 7, 2), (33, .if_icmp .ne 5, 3), (36, .iload_n 2, 1), (37, .ireturn, 1), (38, .iinc 2 1, 3), (41, .goto (-37), 3), (44, .iload_n 1, 1), (45, .ifCond .ne 7, 3), (48, .iconst (-1), 1), (49, .goto 7, 3), (52, .aload_n 0, 1), (53, .getfield 15, 3), (56, .ireturn, 1)]
theorem D_X4_errorPosition_0 : zDk cX4_errorPosition T_X4_errorPosition_0 = true := by decide +kernel
def T_X4_isDigit_0 : zTb := [(0, .iload_n 0, 1), (1, .iload_n 1, 1), (2, .if_icmp .lt 12, 3), (5, .iload_n 0, 1), (6, .iload_n 2, 1), (7, .if_icmp .gt 7, 3), (10, .iconst 1, 1), (11, .goto 4, 3), (14, .iconst 0, 1), (15, .ireturn, 1)]
theorem D_X4_isDigit_0 : zDk cX4_isDigit T_X4_isDigit_0 = true := by decide +kernel
def T_X4_behind_0 : zTb := [(0, .iload_n 0, 1), (1, .tableswitch 152 0 5 #[39, 44, 63, 81, 100, 128], 39), (40, .iload_n 1, 1), (41, .invokestatic 31, 3), (44, .ireturn, 1), (45, .iload_n 1, 1), (46, .bipush 48, 2), (48, .bipush 51, 2), (50, .invokestatic 23, 3), (53, .ifCond .eq 8, 3), (56, .bipush 6, 2), (58, .goto 5, 3), (61, .bipush 7, 2), (63, .ireturn, 1), (64, .iload_n 1, 1), (65, .bipush 48, 2), (67, .bipush 51, 2), (69, .invokestatic 23, 3), (72, .ifCond .eq 7, 3), (75, .iconst 3, 1), (76, .goto 5, 3), (79, .bipush 7, 2), (81, .ireturn, 1), (82, .iload_n 1, 1), (83, .bipush 49, 2), (85, .bipush 57, 2), (87, .invokestatic 23, 3), (90, .ifCond .eq 8, 3), (93, .bipush 6, 2), (95, .goto 5, 3), (98, .bipush 7, 2), (100, .ireturn, 1), (101, .iload_n 1, 1), (102, .bipush 59, 2), (104, .if_icmp .ne 7, 3), (107, .iconst 0, 1), (108, .goto 20, 3), (111, .iload_n 1, 1), (112, .bipush 48, 2), (114, .bipush 55, 2), (116, .invokestatic 23, 3), (119, .ifCond .eq 7, 3), (122, .iconst 5, 1), (123, .goto 5, 3), (126, .bipush 7, 2), (128, .ireturn, 1), (129, .iload_n 1, 1), (130, .bipush 48, 2), (132, .bipush 55, 2), (134, .invokestatic 23, 3), (137, .ifCond .eq 13, 3), (140, .iload_n 1, 1), (141, .iload_n 2, 1), (142, .if_icmp .eq 8, 3), (145, .bipush 6, 2), (147, .goto 5, 3), (150, .bipush 7, 2), (152, .ireturn, 1), (153, .iload_n 1, 1), (154, .bipush 59, 2)]
theorem D_X4_behind_0 : zDk cX4_behind T_X4_behind_0 = true := by decide +kernel
def T_X4_behind_1 : zTb := [(156, .if_icmp .ne 7, 3), (159, .iconst 0, 1), (160, .goto 5, 3), (163, .bipush 7, 2), (165, .ireturn, 1)]
theorem D_X4_behind_1 : zDk cX4_behind T_X4_behind_1 = true := by decide +kernel
def T_X4_behindMoveSign_0 : zTb := [(0, .iload_n 0, 1), (1, .lookupswitch 60 #[(98, 51), (107, 58), (111, 58), (112, 55), (120, 53)], 51), (52, .iconst 1, 1), (53, .ireturn, 1), (54, .iconst 2, 1), (55, .ireturn, 1), (56, .bipush 6, 2), (58, .ireturn, 1), (59, .iconst 4, 1), (60, .ireturn, 1), (61, .bipush 7, 2), (63, .ireturn, 1)]
theorem D_X4_behindMoveSign_0 : zDk cX4_behindMoveSign T_X4_behindMoveSign_0 = true := by decide +kernel
def T_X5_init_0 : zTb := [(0, .aload_n 0, 1), (1, .invokespecial 1, 3), (4, .new 7, 3), (7, .dup, 1), (8, .invokespecial 9, 3), (11, .astore_n 1, 1), (12, .aload_n 0, 1), (13, .new 10, 3), (16, .dup, 1), (17, .aload_n 1, 1), (18, .invokespecial 12, 3), (21, .putfield 15, 3), (24, .aload_n 0, 1), (25, .iconst 4, 1), (26, .anewarray 10, 3), (29, .putfield 21, 3), (32, .iconst 0, 1), (33, .istore_n 2, 1), (34, .iload_n 2, 1), (35, .iconst 4, 1), (36, .if_icmp .ge 23, 3), (39, .aload_n 0, 1), (40, .getfield 21, 3), (43, .iload_n 2, 1), (44, .new 10, 3), (47, .dup, 1), (48, .aload_n 1, 1), (49, .invokespecial 12, 3), (52, .aastore, 1), (53, .iinc 2 1, 3), (56, .goto (-22), 3), (59, .aload_n 0, 1), (60, .iconst 0, 1), (61, .putfield 25, 3), (64, .aload_n 0, 1), (65, .new 29, 3), (68, .dup, 1), (69, .invokespecial 31, 3), (72, .putfield 32, 3), (75, .return_, 1)]
theorem D_X5_init_0 : zDk cX5_init T_X5_init_0 = true := by decide +kernel
def T_X5_begin_0 : zTb := [(0, .iload_n 1, 1), (1, .iconst 2, 1), (2, .if_icmp .lt 8, 3), (5, .iload_n 1, 1), (6, .iconst 4, 1), (7, .if_icmp .le 11, 3), (10, .new 36, 3), (13, .dup, 1), (14, .invokespecial 38, 3), (17, .athrow, 1), (18, .aload_n 0, 1), (19, .invokevirtual 39, 3), (22, .aload_n 0, 1), (23, .getfield 15, 3), (26, .getfield 42, 3), (29, .istore_n 2, 1), (30, .aload_n 0, 1), (31, .getfield 15, 3), (34, .iload_n 1, 1), (35, .invokevirtual 45, 3), (38, .iload_n 2, 1), (39, .ireturn, 1)]
theorem D_X5_begin_0 : zDk cX5_begin T_X5_begin_0 = true := by decide +kernel
def T_X5_setTown_0 : zTb := [(0, .iload_n 1, 1), (1, .invokestatic 49, 3), (4, .ifCond .ne 11, 3), (7, .new 53, 3), (10, .dup, 1), (11, .invokespecial 55, 3), (14, .athrow, 1), (15, .iload_n 2, 1), (16, .ifCond .lt 9, 3), (19, .iload_n 2, 1), (20, .bipush 90, 2), (22, .if_icmp .le 11, 3), (25, .new 36, 3), (28, .dup, 1), (29, .invokespecial 38, 3), (32, .athrow, 1), (33, .aload_n 0, 1), (34, .invokevirtual 39, 3), (37, .aload_n 0, 1), (38, .getfield 15, 3), (41, .getfield 56, 3), (44, .getfield 60, 3), (47, .iload_n 1, 1), (48, .iaload, 1), (49, .istore_n 3, 1), (50, .aload_n 0, 1), (51, .getfield 15, 3), (54, .getfield 56, 3), (57, .getfield 60, 3), (60, .iload_n 1, 1), (61, .iload_n 2, 1), (62, .iastore, 1), (63, .iload_n 3, 1), (64, .ireturn, 1)]
theorem D_X5_setTown_0 : zDk cX5_setTown T_X5_setTown_0 = true := by decide +kernel
def T_X5_start_0 : zTb := [(0, .iload_n 1, 1), (1, .invokestatic 66, 3), (4, .ifCond .eq 10, 3), (7, .iload_n 2, 1), (8, .invokestatic 49, 3), (11, .ifCond .ne 11, 3), (14, .new 53, 3), (17, .dup, 1), (18, .invokespecial 55, 3), (21, .athrow, 1), (22, .iload_n 3, 1), (23, .iconst 2, 1), (24, .if_icmp .lt 9, 3), (27, .iload_n 3, 1), (28, .bipush 8, 2), (30, .if_icmp .le 11, 3), (33, .new 36, 3), (36, .dup, 1), (37, .invokespecial 38, 3), (40, .athrow, 1), (41, .aload_n 0, 1), (42, .getfield 15, 3), (45, .iload_n 1, 1), (46, .iload_n 3, 1), (47, .invokevirtual 69, 3), (50, .ifCond .ne 11, 3), (53, .new 73, 3), (56, .dup, 1), (57, .invokespecial 75, 3), (60, .athrow, 1), (61, .aload_n 0, 1), (62, .invokevirtual 39, 3), (65, .aload_n 0, 1), (66, .getfield 15, 3), (69, .iload_n 1, 1), (70, .iload_n 2, 1), (71, .iload_n 3, 1), (72, .invokevirtual 76, 3), (75, .aload_n 0, 1), (76, .getfield 15, 3), (79, .getfield 80, 3), (82, .iload_n 1, 1), (83, .aaload, 1), (84, .getfield 84, 3), (87, .ireturn, 1)]
theorem D_X5_start_0 : zDk cX5_start T_X5_start_0 = true := by decide +kernel
def T_X5_buy_0 : zTb := [(0, .iload_n 1, 1), (1, .invokestatic 66, 3), (4, .ifCond .ne 11, 3), (7, .new 53, 3), (10, .dup, 1), (11, .invokespecial 55, 3), (14, .athrow, 1), (15, .aload_n 0, 1), (16, .getfield 15, 3), (19, .iload_n 1, 1), (20, .invokevirtual 89, 3), (23, .ifCond .ne 11, 3), (26, .new 73, 3), (29, .dup, 1), (30, .invokespecial 75, 3), (33, .athrow, 1), (34, .aload_n 0, 1), (35, .invokevirtual 39, 3), (38, .aload_n 0, 1), (39, .getfield 15, 3), (42, .iload_n 1, 1), (43, .invokevirtual 92, 3), (46, .ireturn, 1)]
theorem D_X5_buy_0 : zDk cX5_buy T_X5_buy_0 = true := by decide +kernel
def T_X5_sell_0 : zTb := [(0, .iload_n 1, 1), (1, .invokestatic 66, 3), (4, .ifCond .ne 11, 3), (7, .new 53, 3), (10, .dup, 1), (11, .invokespecial 55, 3), (14, .athrow, 1), (15, .iload_n 2, 1), (16, .iconst 1, 1), (17, .if_icmp .lt 9, 3), (20, .iload_n 2, 1), (21, .bipush 10, 2), (23, .if_icmp .le 11, 3), (26, .new 36, 3), (29, .dup, 1), (30, .invokespecial 38, 3), (33, .athrow, 1), (34, .aload_n 0, 1), (35, .getfield 15, 3), (38, .iload_n 1, 1), (39, .iload_n 2, 1), (40, .invokevirtual 96, 3), (43, .ifCond .ne 11, 3), (46, .new 73, 3), (49, .dup, 1), (50, .invokespecial 75, 3), (53, .athrow, 1), (54, .aload_n 0, 1), (55, .invokevirtual 39, 3), (58, .aload_n 0, 1), (59, .getfield 15, 3), (62, .aload_n 0, 1), (63, .getfield 15, 3), (66, .getfield 99, 3), (69, .iload_n 1, 1), (70, .iload_n 2, 1), (71, .invokevirtual 102, 3), (74, .aload_n 0, 1), (75, .getfield 15, 3), (78, .getfield 105, 3), (81, .aload_n 0, 1), (82, .getfield 15, 3), (85, .getfield 99, 3), (88, .iaload, 1), (89, .ireturn, 1)]
theorem D_X5_sell_0 : zDk cX5_sell T_X5_sell_0 = true := by decide +kernel
def T_X5_merge_0 : zTb := [(0, .iload_n 1, 1), (1, .invokestatic 66, 3), (4, .ifCond .eq 10, 3), (7, .iload_n 2, 1), (8, .invokestatic 66, 3), (11, .ifCond .ne 11, 3), (14, .new 53, 3), (17, .dup, 1), (18, .invokespecial 55, 3), (21, .athrow, 1), (22, .iload_n 1, 1), (23, .iload_n 2, 1), (24, .if_icmp .ne 11, 3), (27, .new 36, 3), (30, .dup, 1), (31, .invokespecial 38, 3), (34, .athrow, 1), (35, .aload_n 0, 1), (36, .getfield 15, 3), (39, .iload_n 1, 1), (40, .iload_n 2, 1), (41, .invokevirtual 107, 3), (44, .ifCond .ne 11, 3), (47, .new 73, 3), (50, .dup, 1), (51, .invokespecial 75, 3), (54, .athrow, 1), (55, .aload_n 0, 1), (56, .invokevirtual 39, 3), (59, .aload_n 0, 1), (60, .getfield 15, 3), (63, .iload_n 1, 1), (64, .iload_n 2, 1), (65, .invokevirtual 110, 3), (68, .aload_n 0, 1), (69, .getfield 15, 3), (72, .getfield 80, 3), (75, .iload_n 1, 1), (76, .aaload, 1), (77, .getfield 84, 3), (80, .ireturn, 1)]
theorem D_X5_merge_0 : zDk cX5_merge T_X5_merge_0 = true := by decide +kernel
def T_X5_pass_0 : zTb := [(0, .aload_n 0, 1), (1, .getfield 15, 3), (4, .getfield 114, 3), (7, .ifCond .eq 11, 3), (10, .new 73, 3), (13, .dup, 1), (14, .invokespecial 75, 3), (17, .athrow, 1), (18, .aload_n 0, 1), (19, .invokevirtual 39, 3), (22, .aload_n 0, 1), (23, .getfield 15, 3), (26, .invokevirtual 118, 3), (29, .aload_n 0, 1), (30, .getfield 15, 3), (33, .getfield 114, 3), (36, .ifCond .eq 7, 3), (39, .iconst 1, 1), (40, .goto 4, 3), (43, .iconst 0, 1), (44, .ireturn, 1)]
theorem D_X5_pass_0 : zDk cX5_pass T_X5_pass_0 = true := by decide +kernel
def T_X5_extend_0 : zTb := [(0, .aload_n 0, 1), (1, .getfield 15, 3), (4, .invokevirtual 121, 3), (7, .ifCond .ne 11, 3), (10, .new 73, 3), (13, .dup, 1), (14, .invokespecial 75, 3), (17, .athrow, 1), (18, .aload_n 0, 1), (19, .invokevirtual 39, 3), (22, .aload_n 0, 1), (23, .getfield 15, 3), (26, .invokevirtual 125, 3), (29, .ireturn, 1)]
theorem D_X5_extend_0 : zDk cX5_extend T_X5_extend_0 = true := by decide +kernel
def T_X5_operate_0 : zTb := [(0, .iload_n 1, 1), (1, .iconst (-1), 1), (2, .if_icmp .ne 8, 3), (5, .iload_n 2, 1), (6, .iconst (-1), 1), (7, .if_icmp .eq 7, 3), (10, .iconst 1, 1), (11, .goto 4, 3), (14, .iconst 0, 1), (15, .istore 4, 2), (17, .iload 4, 2), (19, .ifCond .eq 25, 3), (22, .iload_n 1, 1), (23, .invokestatic 49, 3), (26, .ifCond .eq 10, 3), (29, .iload_n 2, 1), (30, .invokestatic 49, 3), (33, .ifCond .ne 11, 3), (36, .new 53, 3), (39, .dup, 1), (40, .invokespecial 55, 3), (43, .athrow, 1), (44, .iload 4, 2), (46, .ifCond .eq 16, 3), (49, .iload_n 1, 1), (50, .iload_n 2, 1), (51, .if_icmp .ne 11, 3), (54, .new 36, 3), (57, .dup, 1), (58, .invokespecial 38, 3), (61, .athrow, 1), (62, .aload_n 0, 1), (63, .getfield 15, 3), (66, .iload_n 1, 1), (67, .iload_n 2, 1), (68, .invokevirtual 129, 3), (71, .ifCond .ne 11, 3), (74, .new 73, 3), (77, .dup, 1), (78, .invokespecial 75, 3), (81, .athrow, 1), (82, .aload_n 0, 1), (83, .invokevirtual 39, 3), (86, .aload_n 0, 1), (87, .getfield 15, 3), (90, .iload_n 1, 1), (91, .iload_n 2, 1), (92, .iload_n 3, 1), (93, .invokevirtual 132, 3), (96, .ireturn, 1)]
theorem D_X5_operate_0 : zDk cX5_operate T_X5_operate_0 = true := by decide +kernel
def T_X5_player_0 : zTb := [(0, .iload_n 1, 1), (1, .ifCond .lt 14, 3), (4, .iload_n 1, 1), (5, .aload_n 0, 1), (6, .getfield 15, 3), (9, .getfield 136, 3), (12, .if_icmp .lt 11, 3), (15, .new 53, 3), (18, .dup, 1), (19, .invokespecial 55, 3), (22, .athrow, 1), (23, .iload_n 2, 1), (24, .ifCond .lt 9, 3), (27, .iload_n 2, 1), (28, .bipush 7, 2), (30, .if_icmp .lt 11, 3), (33, .new 36, 3), (36, .dup, 1), (37, .invokespecial 38, 3), (40, .athrow, 1), (41, .iload_n 2, 1), (42, .ifCond .ne 13, 3), (45, .aload_n 0, 1), (46, .getfield 15, 3), (49, .getfield 105, 3), (52, .iload_n 1, 1), (53, .iaload, 1), (54, .ireturn, 1), (55, .iload_n 2, 1), (56, .iconst 4, 1), (57, .if_icmp .gt 20, 3), (60, .aload_n 0, 1), (61, .getfield 15, 3), (64, .getfield 80, 3), (67, .iload_n 2, 1), (68, .iconst 1, 1), (69, .isub, 1), (70, .aaload, 1), (71, .getfield 139, 3), (74, .iload_n 1, 1), (75, .iaload, 1), (76, .ireturn, 1), (77, .iload_n 2, 1), (78, .iconst 5, 1), (79, .if_icmp .ne 14, 3), (82, .aload_n 0, 1), (83, .getfield 15, 3), (86, .iload_n 1, 1), (87, .invokevirtual 142, 3), (90, .goto 11, 3), (93, .aload_n 0, 1), (94, .getfield 15, 3), (97, .iload_n 1, 1), (98, .invokevirtual 145, 3), (101, .ireturn, 1)]
theorem D_X5_player_0 : zDk cX5_player T_X5_player_0 = true := by decide +kernel
def T_X5_company_0 : zTb := [(0, .iload_n 1, 1), (1, .invokestatic 66, 3), (4, .ifCond .ne 11, 3), (7, .new 53, 3), (10, .dup, 1), (11, .invokespecial 55, 3), (14, .athrow, 1), (15, .iload_n 2, 1), (16, .ifCond .lt 9, 3), (19, .iload_n 2, 1), (20, .bipush 9, 2), (22, .if_icmp .lt 11, 3), (25, .new 36, 3), (28, .dup, 1), (29, .invokespecial 38, 3), (32, .athrow, 1), (33, .aload_n 0, 1), (34, .getfield 15, 3), (37, .getfield 80, 3), (40, .iload_n 1, 1), (41, .aaload, 1), (42, .astore_n 3, 1), (43, .iload_n 2, 1), (44, .ifCond .ne 16, 3), (47, .aload_n 3, 1), (48, .getfield 148, 3), (51, .ifCond .eq 7, 3), (54, .iconst 1, 1), (55, .goto 4, 3), (58, .iconst 0, 1), (59, .ireturn, 1), (60, .aload_n 3, 1), (61, .getfield 148, 3), (64, .ifCond .ne 5, 3), (67, .iconst (-1), 1), (68, .ireturn, 1), (69, .iload_n 2, 1), (70, .bipush 7, 2), (72, .if_icmp .ne 14, 3), (75, .aload_n 0, 1), (76, .getfield 15, 3), (79, .aload_n 3, 1), (80, .invokevirtual 151, 3), (83, .goto 8, 3), (86, .aload_n 3, 1), (87, .iload_n 2, 1), (88, .invokevirtual 155, 3), (91, .ireturn, 1)]
theorem D_X5_company_0 : zDk cX5_company T_X5_company_0 = true := by decide +kernel
def T_X5_track_0 : zTb := [(0, .iload_n 1, 1), (1, .invokestatic 49, 3), (4, .ifCond .eq 10, 3), (7, .iload_n 2, 1), (8, .invokestatic 49, 3), (11, .ifCond .ne 11, 3), (14, .new 53, 3), (17, .dup, 1), (18, .invokespecial 55, 3), (21, .athrow, 1), (22, .aload_n 0, 1), (23, .getfield 15, 3), (26, .getfield 56, 3), (29, .getfield 158, 3), (32, .iload_n 1, 1), (33, .aaload, 1), (34, .iload_n 2, 1), (35, .iaload, 1), (36, .ireturn, 1)]
theorem D_X5_track_0 : zDk cX5_track T_X5_track_0 = true := by decide +kernel
def T_X5_value_0 : zTb := [(0, .iload_n 1, 1), (1, .ifCond .lt 9, 3), (4, .iload_n 1, 1), (5, .bipush 10, 2), (7, .if_icmp .lt 11, 3), (10, .new 36, 3), (13, .dup, 1), (14, .invokespecial 38, 3), (17, .athrow, 1), (18, .aload_n 0, 1), (19, .getfield 15, 3), (22, .iload_n 1, 1), (23, .invokevirtual 162, 3), (26, .ireturn, 1)]
theorem D_X5_value_0 : zDk cX5_value T_X5_value_0 = true := by decide +kernel
def T_X5_town_0 : zTb := [(0, .iload_n 1, 1), (1, .invokestatic 49, 3), (4, .ifCond .ne 11, 3), (7, .new 53, 3), (10, .dup, 1), (11, .invokespecial 55, 3), (14, .athrow, 1), (15, .aload_n 0, 1), (16, .getfield 15, 3), (19, .getfield 56, 3), (22, .getfield 60, 3), (25, .iload_n 1, 1), (26, .iaload, 1), (27, .ireturn, 1)]
theorem D_X5_town_0 : zDk cX5_town T_X5_town_0 = true := by decide +kernel
def T_X5_route_0 : zTb := [(0, .iload_n 1, 1), (1, .invokestatic 66, 3), (4, .ifCond .eq 7, 3), (7, .iload_n 2, 1), (8, .ifCond .ge 11, 3), (11, .new 53, 3), (14, .dup, 1), (15, .invokespecial 55, 3), (18, .athrow, 1), (19, .aload_n 0, 1), (20, .getfield 15, 3), (23, .aload_n 0, 1), (24, .getfield 15, 3), (27, .getfield 80, 3), (30, .iload_n 1, 1), (31, .aaload, 1), (32, .iload_n 2, 1), (33, .invokevirtual 163, 3), (36, .ireturn, 1)]
theorem D_X5_route_0 : zDk cX5_route T_X5_route_0 = true := by decide +kernel
def T_X5_incomeWith_0 : zTb := [(0, .iload_n 1, 1), (1, .invokestatic 66, 3), (4, .ifCond .eq 17, 3), (7, .iload_n 2, 1), (8, .invokestatic 49, 3), (11, .ifCond .eq 10, 3), (14, .iload_n 3, 1), (15, .invokestatic 49, 3), (18, .ifCond .ne 11, 3), (21, .new 53, 3), (24, .dup, 1), (25, .invokespecial 55, 3), (28, .athrow, 1), (29, .iload_n 2, 1), (30, .iload_n 3, 1), (31, .if_icmp .ne 11, 3), (34, .new 36, 3), (37, .dup, 1), (38, .invokespecial 38, 3), (41, .athrow, 1), (42, .aload_n 0, 1), (43, .getfield 15, 3), (46, .getfield 80, 3), (49, .iload_n 1, 1), (50, .aaload, 1), (51, .astore 4, 2), (53, .aload 4, 2), (55, .getfield 148, 3), (58, .ifCond .eq 21, 3), (61, .aload_n 0, 1), (62, .getfield 15, 3), (65, .getfield 56, 3), (68, .getfield 158, 3), (71, .iload_n 2, 1), (72, .aaload, 1), (73, .iload_n 3, 1), (74, .iaload, 1), (75, .iconst 2, 1), (76, .if_icmp .lt 5, 3), (79, .iconst (-1), 1), (80, .ireturn, 1), (81, .aload_n 0, 1), (82, .getfield 15, 3), (85, .aload 4, 2), (87, .iload_n 2, 1), (88, .iload_n 3, 1), (89, .invokevirtual 167, 3), (92, .ireturn, 1)]
theorem D_X5_incomeWith_0 : zDk cX5_incomeWith T_X5_incomeWith_0 = true := by decide +kernel
def T_X5_bestTrack_0 : zTb := [(0, .iload_n 1, 1), (1, .invokestatic 66, 3), (4, .ifCond .ne 11, 3), (7, .new 53, 3), (10, .dup, 1), (11, .invokespecial 55, 3), (14, .athrow, 1), (15, .aload_n 0, 1), (16, .getfield 15, 3), (19, .aload_n 0, 1), (20, .getfield 15, 3), (23, .getfield 80, 3), (26, .iload_n 1, 1), (27, .aaload, 1), (28, .invokevirtual 171, 3), (31, .ireturn, 1)]
theorem D_X5_bestTrack_0 : zDk cX5_bestTrack T_X5_bestTrack_0 = true := by decide +kernel
def T_X5_dividend_0 : zTb := [(0, .iload_n 1, 1), (1, .invokestatic 66, 3), (4, .ifCond .ne 11, 3), (7, .new 53, 3), (10, .dup, 1), (11, .invokespecial 55, 3), (14, .athrow, 1), (15, .aload_n 0, 1), (16, .getfield 15, 3), (19, .getfield 80, 3), (22, .iload_n 1, 1), (23, .aaload, 1), (24, .astore_n 2, 1), (25, .aload_n 2, 1), (26, .getfield 148, 3), (29, .ifCond .eq 17, 3), (32, .aload_n 0, 1), (33, .getfield 15, 3), (36, .aload_n 2, 1), (37, .invokevirtual 151, 3), (40, .bipush 10, 2), (42, .idiv, 1), (43, .goto 4, 3), (46, .iconst 0, 1), (47, .ireturn, 1)]
theorem D_X5_dividend_0 : zDk cX5_dividend T_X5_dividend_0 = true := by decide +kernel
def T_X5_leader_0 : zTb := [(0, .iconst 0, 1), (1, .istore_n 1, 1), (2, .iconst 1, 1), (3, .istore_n 2, 1), (4, .iload_n 2, 1), (5, .aload_n 0, 1), (6, .getfield 15, 3), (9, .getfield 136, 3), (12, .if_icmp .ge 30, 3), (15, .aload_n 0, 1), (16, .getfield 15, 3), (19, .iload_n 2, 1), (20, .invokevirtual 142, 3), (23, .aload_n 0, 1), (24, .getfield 15, 3), (27, .iload_n 1, 1), (28, .invokevirtual 142, 3), (31, .if_icmp .le 5, 3), (34, .iload_n 2, 1), (35, .istore_n 1, 1), (36, .iinc 2 1, 3), (39, .goto (-35), 3), (42, .iload_n 1, 1), (43, .ireturn, 1)]
theorem D_X5_leader_0 : zDk cX5_leader T_X5_leader_0 = true := by decide +kernel
def T_X5_unsold_0 : zTb := [(0, .aload_n 0, 1), (1, .getfield 15, 3), (4, .invokevirtual 174, 3), (7, .istore_n 1, 1), (8, .iload_n 1, 1), (9, .ifCond .ne 5, 3), (12, .dconst 0, 1), (13, .dreturn, 1), (14, .aload_n 0, 1), (15, .getfield 15, 3), (18, .invokevirtual 177, 3), (21, .i2d, 1), (22, .bipush 10, 2), (24, .iload_n 1, 1), (25, .imul, 1), (26, .i2d, 1), (27, .ddiv, 1), (28, .dreturn, 1)]
theorem D_X5_unsold_0 : zDk cX5_unsold T_X5_unsold_0 = true := by decide +kernel
def T_X5_append_0 : zTb := [(0, .iload_n 1, 1), (1, .ifCond .lt 9, 3), (4, .iload_n 1, 1), (5, .bipush 127, 2), (7, .if_icmp .le 11, 3), (10, .new 36, 3), (13, .dup, 1), (14, .invokespecial 38, 3), (17, .athrow, 1), (18, .aload_n 0, 1), (19, .getfield 32, 3), (22, .getfield 180, 3), (25, .bipush 90, 2), (27, .if_icmp .lt 11, 3), (30, .new 73, 3), (33, .dup, 1), (34, .invokespecial 75, 3), (37, .athrow, 1), (38, .aload_n 0, 1), (39, .getfield 32, 3), (42, .iload_n 1, 1), (43, .invokevirtual 183, 3), (46, .aload_n 0, 1), (47, .getfield 32, 3), (50, .getfield 180, 3), (53, .ireturn, 1)]
theorem D_X5_append_0 : zDk cX5_append T_X5_append_0 = true := by decide +kernel
def T_X5_clearText_0 : zTb := [(0, .aload_n 0, 1), (1, .getfield 32, 3), (4, .getfield 180, 3), (7, .istore_n 1, 1), (8, .aload_n 0, 1), (9, .getfield 32, 3), (12, .iconst 0, 1), (13, .putfield 180, 3), (16, .iload_n 1, 1), (17, .ireturn, 1)]
theorem D_X5_clearText_0 : zDk cX5_clearText T_X5_clearText_0 = true := by decide +kernel
def T_X5_play_0 : zTb := [(0, .aload_n 0, 1), (1, .getfield 32, 3), (4, .invokevirtual 186, 3), (7, .istore_n 1, 1), (8, .iload_n 1, 1), (9, .iconst (-1), 1), (10, .if_icmp .eq 8, 3), (13, .bipush (-10), 2), (15, .iload_n 1, 1), (16, .isub, 1), (17, .ireturn, 1), (18, .aload_n 0, 1), (19, .invokevirtual 39, 3), (22, .iconst 0, 1), (23, .istore_n 2, 1), (24, .iconst 0, 1), (25, .istore_n 3, 1), (26, .iload_n 2, 1), (27, .bipush 90, 2), (29, .if_icmp .ge 37, 3), (32, .iload_n 3, 1), (33, .aload_n 0, 1), (34, .getfield 32, 3), (37, .getfield 180, 3), (40, .if_icmp .ge 26, 3), (43, .aload_n 0, 1), (44, .iload_n 3, 1), (45, .invokevirtual 189, 3), (48, .ifCond .eq 18, 3), (51, .iinc 2 1, 3), (54, .aload_n 0, 1), (55, .getfield 32, 3), (58, .iload_n 3, 1), (59, .invokevirtual 192, 3), (62, .istore_n 3, 1), (63, .goto (-37), 3), (66, .iload_n 2, 1), (67, .ireturn, 1)]
theorem D_X5_play_0 : zDk cX5_play T_X5_play_0 = true := by decide +kernel
def T_X5_undo_0 : zTb := [(0, .aload_n 0, 1), (1, .getfield 25, 3), (4, .ifCond .gt 11, 3), (7, .new 73, 3), (10, .dup, 1), (11, .invokespecial 75, 3), (14, .athrow, 1), (15, .aload_n 0, 1), (16, .dup, 1), (17, .getfield 25, 3), (20, .iconst 1, 1), (21, .isub, 1), (22, .putfield 25, 3), (25, .aload_n 0, 1), (26, .getfield 15, 3), (29, .aload_n 0, 1), (30, .getfield 21, 3), (33, .aload_n 0, 1), (34, .getfield 25, 3), (37, .aaload, 1), (38, .invokevirtual 195, 3), (41, .aload_n 0, 1), (42, .getfield 25, 3), (45, .ireturn, 1)]
theorem D_X5_undo_0 : zDk cX5_undo T_X5_undo_0 = true := by decide +kernel
def T_X5_digest_0 : zTb := [(0, .ldc2_w 199, 3), (3, .aload_n 0, 1), (4, .getfield 32, 3), (7, .getfield 180, 3), (10, .i2l, 1), (11, .ladd, 1), (12, .lstore_n 1, 1), (13, .iconst 0, 1), (14, .istore_n 3, 1), (15, .iload_n 3, 1), (16, .bipush 10, 2), (18, .if_icmp .ge 22, 3), (21, .ldc2_w 201, 3), (24, .lload_n 1, 1), (25, .lmul, 1), (26, .aload_n 0, 1), (27, .iload_n 3, 1), (28, .invokevirtual 203, 3), (31, .i2l, 1), (32, .ladd, 1), (33, .lstore_n 1, 1), (34, .iinc 3 1, 3), (37, .goto (-22), 3), (40, .iconst 0, 1), (41, .istore_n 3, 1), (42, .iload_n 3, 1), (43, .aload_n 0, 1), (44, .getfield 15, 3), (47, .getfield 136, 3), (50, .if_icmp .ge 40, 3), (53, .iconst 0, 1), (54, .istore 4, 2), (56, .iload 4, 2), (58, .bipush 7, 2), (60, .if_icmp .ge 24, 3), (63, .ldc2_w 201, 3), (66, .lload_n 1, 1), (67, .lmul, 1), (68, .aload_n 0, 1), (69, .iload_n 3, 1), (70, .iload 4, 2), (72, .invokevirtual 206, 3), (75, .i2l, 1), (76, .ladd, 1), (77, .lstore_n 1, 1), (78, .iinc 4 1, 3), (81, .goto (-25), 3), (84, .iinc 3 1, 3), (87, .goto (-45), 3), (90, .iconst 0, 1), (91, .istore_n 3, 1), (92, .iload_n 3, 1), (93, .iconst 4, 1), (94, .if_icmp .ge 40, 3), (97, .iconst 0, 1), (98, .istore 4, 2), (100, .iload 4, 2), (102, .bipush 9, 2), (104, .if_icmp .ge 24, 3), (107, .ldc2_w 201, 3)]
theorem D_X5_digest_0 : zDk cX5_digest T_X5_digest_0 = true := by decide +kernel
def T_X5_digest_1 : zTb := [(110, .lload_n 1, 1), (111, .lmul, 1), (112, .aload_n 0, 1), (113, .iload_n 3, 1), (114, .iload 4, 2), (116, .invokevirtual 210, 3), (119, .i2l, 1), (120, .ladd, 1), (121, .lstore_n 1, 1), (122, .iinc 4 1, 3), (125, .goto (-25), 3), (128, .iinc 3 1, 3), (131, .goto (-39), 3), (134, .iconst 0, 1), (135, .istore_n 3, 1), (136, .iload_n 3, 1), (137, .bipush 8, 2), (139, .if_icmp .ge 42, 3), (142, .iload_n 3, 1), (143, .iconst 1, 1), (144, .iadd, 1), (145, .istore 4, 2), (147, .iload 4, 2), (149, .bipush 8, 2), (151, .if_icmp .ge 24, 3), (154, .ldc2_w 201, 3), (157, .lload_n 1, 1), (158, .lmul, 1), (159, .aload_n 0, 1), (160, .iload_n 3, 1), (161, .iload 4, 2), (163, .invokevirtual 213, 3), (166, .i2l, 1), (167, .ladd, 1), (168, .lstore_n 1, 1), (169, .iinc 4 1, 3), (172, .goto (-25), 3), (175, .iinc 3 1, 3), (178, .goto (-42), 3), (181, .iconst 0, 1), (182, .istore_n 3, 1), (183, .iload_n 3, 1), (184, .bipush 8, 2), (186, .if_icmp .ge 22, 3), (189, .ldc2_w 201, 3), (192, .lload_n 1, 1), (193, .lmul, 1), (194, .aload_n 0, 1), (195, .iload_n 3, 1), (196, .invokevirtual 216, 3), (199, .i2l, 1), (200, .ladd, 1), (201, .lstore_n 1, 1), (202, .iinc 3 1, 3), (205, .goto (-22), 3), (208, .ldc2_w 201, 3), (211, .lload_n 1, 1), (212, .lmul, 1), (213, .aload_n 0, 1), (214, .getfield 25, 3)]
theorem D_X5_digest_1 : zDk cX5_digest T_X5_digest_1 = true := by decide +kernel
def T_X5_digest_2 : zTb := [(217, .i2l, 1), (218, .ladd, 1), (219, .lreturn, 1)]
theorem D_X5_digest_2 : zDk cX5_digest T_X5_digest_2 = true := by decide +kernel
def T_X5_isTown_0 : zTb := [(0, .iload_n 0, 1), (1, .ifCond .lt 13, 3), (4, .iload_n 0, 1), (5, .bipush 8, 2), (7, .if_icmp .ge 7, 3), (10, .iconst 1, 1), (11, .goto 4, 3), (14, .iconst 0, 1), (15, .ireturn, 1)]
theorem D_X5_isTown_0 : zDk cX5_isTown T_X5_isTown_0 = true := by decide +kernel
def T_X5_isCompany_0 : zTb := [(0, .iload_n 0, 1), (1, .ifCond .lt 12, 3), (4, .iload_n 0, 1), (5, .iconst 4, 1), (6, .if_icmp .ge 7, 3), (9, .iconst 1, 1), (10, .goto 4, 3), (13, .iconst 0, 1), (14, .ireturn, 1)]
theorem D_X5_isCompany_0 : zDk cX5_isCompany T_X5_isCompany_0 = true := by decide +kernel
def T_X5_saveState_0 : zTb := [(0, .aload_n 0, 1), (1, .getfield 25, 3), (4, .iconst 4, 1), (5, .if_icmp .ne 54, 3), (8, .aload_n 0, 1), (9, .getfield 21, 3), (12, .iconst 0, 1), (13, .aaload, 1), (14, .astore_n 1, 1), (15, .iconst 1, 1), (16, .istore_n 2, 1), (17, .iload_n 2, 1), (18, .iconst 4, 1), (19, .if_icmp .ge 23, 3), (22, .aload_n 0, 1), (23, .getfield 21, 3), (26, .iload_n 2, 1), (27, .iconst 1, 1), (28, .isub, 1), (29, .aload_n 0, 1), (30, .getfield 21, 3), (33, .iload_n 2, 1), (34, .aaload, 1), (35, .aastore, 1), (36, .iinc 2 1, 3), (39, .goto (-22), 3), (42, .aload_n 0, 1), (43, .getfield 21, 3), (46, .iconst 3, 1), (47, .aload_n 1, 1), (48, .aastore, 1), (49, .aload_n 0, 1), (50, .dup, 1), (51, .getfield 25, 3), (54, .iconst 1, 1), (55, .isub, 1), (56, .putfield 25, 3), (59, .aload_n 0, 1), (60, .getfield 21, 3), (63, .aload_n 0, 1), (64, .getfield 25, 3), (67, .aaload, 1), (68, .aload_n 0, 1), (69, .getfield 15, 3), (72, .invokevirtual 195, 3), (75, .aload_n 0, 1), (76, .dup, 1), (77, .getfield 25, 3), (80, .iconst 1, 1), (81, .iadd, 1), (82, .putfield 25, 3), (85, .return_, 1)]
theorem D_X5_saveState_0 : zDk cX5_saveState T_X5_saveState_0 = true := by decide +kernel
def T_X5_makeMove_0 : zTb := [(0, .aload_n 0, 1), (1, .getfield 32, 3), (4, .iload_n 1, 1), (5, .invokevirtual 219, 3), (8, .istore_n 2, 1), (9, .aload_n 0, 1), (10, .getfield 32, 3), (13, .iload_n 1, 1), (14, .iconst 1, 1), (15, .iadd, 1), (16, .invokevirtual 222, 3), (19, .istore_n 3, 1), (20, .aload_n 0, 1), (21, .getfield 32, 3), (24, .iload_n 1, 1), (25, .iconst 2, 1), (26, .iadd, 1), (27, .invokevirtual 222, 3), (30, .istore 4, 2), (32, .iload_n 2, 1), (33, .lookupswitch 183 #[(98, 51), (107, 144), (111, 144), (112, 123), (120, 82)], 51), (84, .iload_n 3, 1), (85, .invokestatic 66, 3), (88, .ifCond .eq 14, 3), (91, .aload_n 0, 1), (92, .getfield 15, 3), (95, .iload_n 3, 1), (96, .invokevirtual 89, 3), (99, .ifCond .ne 5, 3), (102, .iconst 0, 1), (103, .ireturn, 1), (104, .aload_n 0, 1), (105, .getfield 15, 3), (108, .iload_n 3, 1), (109, .invokevirtual 92, 3), (112, .pop, 1), (113, .iconst 1, 1), (114, .ireturn, 1), (115, .iload_n 3, 1), (116, .invokestatic 66, 3), (119, .ifCond .eq 16, 3), (122, .aload_n 0, 1), (123, .getfield 15, 3), (126, .iload_n 3, 1), (127, .iload 4, 2), (129, .invokevirtual 96, 3), (132, .ifCond .ne 5, 3), (135, .iconst 0, 1), (136, .ireturn, 1), (137, .aload_n 0, 1), (138, .getfield 15, 3), (141, .aload_n 0, 1), (142, .getfield 15, 3), (145, .getfield 99, 3), (148, .iload_n 3, 1), (149, .iload 4, 2), (151, .invokevirtual 102, 3), (154, .iconst 1, 1), (155, .ireturn, 1), (156, .aload_n 0, 1)]
theorem D_X5_makeMove_0 : zDk cX5_makeMove T_X5_makeMove_0 = true := by decide +kernel
def T_X5_makeMove_1 : zTb := [(157, .getfield 15, 3), (160, .getfield 114, 3), (163, .ifCond .eq 5, 3), (166, .iconst 0, 1), (167, .ireturn, 1), (168, .aload_n 0, 1), (169, .getfield 15, 3), (172, .invokevirtual 118, 3), (175, .iconst 1, 1), (176, .ireturn, 1), (177, .aload_n 0, 1), (178, .getfield 15, 3), (181, .iload_n 3, 1), (182, .iload 4, 2), (184, .invokevirtual 129, 3), (187, .ifCond .ne 5, 3), (190, .iconst 0, 1), (191, .ireturn, 1), (192, .aload_n 0, 1), (193, .getfield 15, 3), (196, .iload_n 3, 1), (197, .iload 4, 2), (199, .iload_n 2, 1), (200, .bipush 111, 2), (202, .if_icmp .ne 7, 3), (205, .iconst 1, 1), (206, .goto 4, 3), (209, .iconst 0, 1), (210, .invokevirtual 132, 3), (213, .pop, 1), (214, .iconst 1, 1), (215, .ireturn, 1), (216, .iconst 0, 1), (217, .ireturn, 1)]
theorem D_X5_makeMove_1 : zDk cX5_makeMove T_X5_makeMove_1 = true := by decide +kernel
def T_X6_init_0 : zTb := [(0, .aload_n 0, 1), (1, .invokespecial 1, 3), (4, .aload_n 0, 1), (5, .sipush 134, 3), (8, .newarray .int, 2), (10, .putfield 7, 3), (13, .aload_n 0, 1), (14, .sipush 536, 3), (17, .newarray .int, 2), (19, .putfield 13, 3), (22, .aload_n 0, 1), (23, .bipush 90, 2), (25, .newarray .int, 2), (27, .putfield 16, 3), (30, .aload_n 0, 1), (31, .iconst 5, 1), (32, .newarray .int, 2), (34, .putfield 19, 3), (37, .aload_n 0, 1), (38, .iconst 5, 1), (39, .newarray .int, 2), (41, .putfield 22, 3), (44, .aload_n 0, 1), (45, .iconst 5, 1), (46, .newarray .int, 2), (48, .putfield 25, 3), (51, .aload_n 0, 1), (52, .iconst 5, 1), (53, .newarray .int, 2), (55, .putfield 28, 3), (58, .iconst 0, 1), (59, .istore_n 1, 1), (60, .iload_n 1, 1), (61, .bipush 8, 2), (63, .if_icmp .ge 27, 3), (66, .aload_n 0, 1), (67, .getfield 7, 3), (70, .bipush 126, 2), (72, .iload_n 1, 1), (73, .iadd, 1), (74, .bipush 10, 2), (76, .bipush 10, 2), (78, .iload_n 1, 1), (79, .iconst 4, 1), (80, .irem, 1), (81, .imul, 1), (82, .iadd, 1), (83, .iastore, 1), (84, .iinc 1 1, 3), (87, .goto (-27), 3), (90, .aload_n 0, 1), (91, .iconst 3, 1), (92, .invokevirtual 31, 3), (95, .return_, 1)]
theorem D_X6_init_0 : zDk cX6_init T_X6_init_0 = true := by decide +kernel
def T_X6_thrown_0 : zTb := [(0, .aload_n 0, 1), (1, .getfield 35, 3), (4, .ireturn, 1)]
theorem D_X6_thrown_0 : zDk cX6_thrown T_X6_thrown_0 = true := by decide +kernel
def T_X6_refused_0 : zTb := [(0, .aload_n 0, 1), (1, .iload_n 1, 1), (2, .putfield 35, 3), (5, .iload_n 1, 1), (6, .ifCond .le 7, 3), (9, .iconst 1, 1), (10, .goto 4, 3), (13, .iconst 0, 1), (14, .ireturn, 1)]
theorem D_X6_refused_0 : zDk cX6_refused T_X6_refused_0 = true := by decide +kernel
def T_X6_in_0 : zTb := [(0, .iload_n 0, 1), (1, .iload_n 1, 1), (2, .if_icmp .lt 12, 3), (5, .iload_n 0, 1), (6, .iload_n 2, 1), (7, .if_icmp .gt 7, 3), (10, .iconst 1, 1), (11, .goto 4, 3), (14, .iconst 0, 1), (15, .ireturn, 1)]
theorem D_X6_in_0 : zDk cX6_in T_X6_in_0 = true := by decide +kernel
def T_X6_has_0 : zTb := [(0, .iload_n 0, 1), (1, .iload_n 1, 1), (2, .ishr, 1), (3, .iconst 1, 1), (4, .iand, 1), (5, .iconst 1, 1), (6, .if_icmp .ne 7, 3), (9, .iconst 1, 1), (10, .goto 4, 3), (13, .iconst 0, 1), (14, .ireturn, 1)]
theorem D_X6_has_0 : zDk cX6_has T_X6_has_0 = true := by decide +kernel
def T_X6_begins_0 : zTb := [(0, .iconst 0, 1), (1, .istore_n 2, 1), (2, .iload_n 2, 1), (3, .bipush 126, 2), (5, .if_icmp .ge 16, 3), (8, .aload_n 0, 1), (9, .getfield 7, 3), (12, .iload_n 2, 1), (13, .iconst 0, 1), (14, .iastore, 1), (15, .iinc 2 1, 3), (18, .goto (-16), 3), (21, .aload_n 0, 1), (22, .getfield 7, 3), (25, .iconst 0, 1), (26, .iload_n 1, 1), (27, .iastore, 1), (28, .iconst 0, 1), (29, .istore_n 2, 1), (30, .iload_n 2, 1), (31, .iload_n 1, 1), (32, .if_icmp .ge 21, 3), (35, .aload_n 0, 1), (36, .getfield 7, 3), (39, .bipush 14, 2), (41, .iload_n 2, 1), (42, .iadd, 1), (43, .sipush 500, 3), (46, .iastore, 1), (47, .iinc 2 1, 3), (50, .goto (-20), 3), (53, .iconst 0, 1), (54, .istore_n 2, 1), (55, .iload_n 2, 1), (56, .iconst 4, 1), (57, .if_icmp .ge 24, 3), (60, .aload_n 0, 1), (61, .getfield 7, 3), (64, .bipush 34, 2), (66, .bipush 7, 2), (68, .iload_n 2, 1), (69, .imul, 1), (70, .iadd, 1), (71, .iconst 5, 1), (72, .iadd, 1), (73, .iconst (-1), 1), (74, .iastore, 1), (75, .iinc 2 1, 3), (78, .goto (-23), 3), (81, .return_, 1)]
theorem D_X6_begins_0 : zDk cX6_begins T_X6_begins_0 = true := by decide +kernel
def T_X6_saves_0 : zTb := [(0, .aload_n 0, 1), (1, .getfield 39, 3), (4, .iconst 4, 1), (5, .if_icmp .ne 44, 3), (8, .iconst 0, 1), (9, .istore_n 1, 1), (10, .iload_n 1, 1), (11, .sipush 402, 3), (14, .if_icmp .ge 25, 3), (17, .aload_n 0, 1), (18, .getfield 13, 3), (21, .iload_n 1, 1), (22, .aload_n 0, 1), (23, .getfield 13, 3), (26, .iload_n 1, 1), (27, .sipush 134, 3), (30, .iadd, 1), (31, .iaload, 1), (32, .iastore, 1), (33, .iinc 1 1, 3), (36, .goto (-26), 3), (39, .aload_n 0, 1), (40, .dup, 1), (41, .getfield 39, 3), (44, .iconst 1, 1), (45, .isub, 1), (46, .putfield 39, 3), (49, .iconst 0, 1), (50, .istore_n 1, 1), (51, .iload_n 1, 1), (52, .sipush 134, 3), (55, .if_icmp .ge 30, 3), (58, .aload_n 0, 1), (59, .getfield 13, 3), (62, .sipush 134, 3), (65, .aload_n 0, 1), (66, .getfield 39, 3), (69, .imul, 1), (70, .iload_n 1, 1), (71, .iadd, 1), (72, .aload_n 0, 1), (73, .getfield 7, 3), (76, .iload_n 1, 1), (77, .iaload, 1), (78, .iastore, 1), (79, .iinc 1 1, 3), (82, .goto (-31), 3), (85, .aload_n 0, 1), (86, .dup, 1), (87, .getfield 39, 3), (90, .iconst 1, 1), (91, .iadd, 1), (92, .putfield 39, 3), (95, .return_, 1)]
theorem D_X6_saves_0 : zDk cX6_saves T_X6_saves_0 = true := by decide +kernel
def T_X6_undo_0 : zTb := [(0, .aload_n 0, 1), (1, .aload_n 0, 1), (2, .getfield 39, 3), (5, .ifCond .ne 7, 3), (8, .iconst 1, 1), (9, .goto 4, 3), (12, .iconst 0, 1), (13, .invokevirtual 42, 3), (16, .ifCond .eq 5, 3), (19, .iconst 0, 1), (20, .ireturn, 1), (21, .aload_n 0, 1), (22, .dup, 1), (23, .getfield 39, 3), (26, .iconst 1, 1), (27, .isub, 1), (28, .putfield 39, 3), (31, .iconst 0, 1), (32, .istore_n 1, 1), (33, .iload_n 1, 1), (34, .sipush 134, 3), (37, .if_icmp .ge 30, 3), (40, .aload_n 0, 1), (41, .getfield 7, 3), (44, .iload_n 1, 1), (45, .aload_n 0, 1), (46, .getfield 13, 3), (49, .sipush 134, 3), (52, .aload_n 0, 1), (53, .getfield 39, 3), (56, .imul, 1), (57, .iload_n 1, 1), (58, .iadd, 1), (59, .iaload, 1), (60, .iastore, 1), (61, .iinc 1 1, 3), (64, .goto (-31), 3), (67, .aload_n 0, 1), (68, .getfield 39, 3), (71, .ireturn, 1)]
theorem D_X6_undo_0 : zDk cX6_undo T_X6_undo_0 = true := by decide +kernel
def T_X6_isPlayer_0 : zTb := [(0, .iload_n 1, 1), (1, .iconst 0, 1), (2, .aload_n 0, 1), (3, .getfield 7, 3), (6, .iconst 0, 1), (7, .iaload, 1), (8, .iconst 1, 1), (9, .isub, 1), (10, .invokestatic 46, 3), (13, .ireturn, 1)]
theorem D_X6_isPlayer_0 : zDk cX6_isPlayer T_X6_isPlayer_0 = true := by decide +kernel
def T_X6_isCompany_0 : zTb := [(0, .iload_n 0, 1), (1, .iconst 0, 1), (2, .iconst 3, 1), (3, .invokestatic 46, 3), (6, .ireturn, 1)]
theorem D_X6_isCompany_0 : zDk cX6_isCompany T_X6_isCompany_0 = true := by decide +kernel
def T_X6_isTown_0 : zTb := [(0, .iload_n 0, 1), (1, .iconst 0, 1), (2, .bipush 7, 2), (4, .invokestatic 46, 3), (7, .ireturn, 1)]
theorem D_X6_isTown_0 : zDk cX6_isTown T_X6_isTown_0 = true := by decide +kernel
def T_X6_of_0 : zTb := [(0, .aload_n 0, 1), (1, .getfield 7, 3), (4, .bipush 34, 2), (6, .bipush 7, 2), (8, .iload_n 1, 1), (9, .imul, 1), (10, .iadd, 1), (11, .iload_n 2, 1), (12, .iadd, 1), (13, .iaload, 1), (14, .ireturn, 1)]
theorem D_X6_of_0 : zDk cX6_of T_X6_of_0 = true := by decide +kernel
def T_X6_isOpen_0 : zTb := [(0, .aload_n 0, 1), (1, .iload_n 1, 1), (2, .iconst 0, 1), (3, .invokevirtual 50, 3), (6, .iconst 1, 1), (7, .if_icmp .ne 7, 3), (10, .iconst 1, 1), (11, .goto 4, 3), (14, .iconst 0, 1), (15, .ireturn, 1)]
theorem D_X6_isOpen_0 : zDk cX6_isOpen T_X6_isOpen_0 = true := by decide +kernel
def T_X6_price_0 : zTb := [(0, .bipush 20, 2), (2, .bipush 10, 2), (4, .aload_n 0, 1), (5, .iload_n 1, 1), (6, .iconst 3, 1), (7, .invokevirtual 50, 3), (10, .imul, 1), (11, .iadd, 1), (12, .ireturn, 1)]
theorem D_X6_price_0 : zDk cX6_price T_X6_price_0 = true := by decide +kernel
def T_X6_shares_0 : zTb := [(0, .aload_n 0, 1), (1, .getfield 7, 3), (4, .bipush 18, 2), (6, .iconst 4, 1), (7, .iload_n 1, 1), (8, .imul, 1), (9, .iadd, 1), (10, .iload_n 2, 1), (11, .iadd, 1), (12, .iaload, 1), (13, .ireturn, 1)]
theorem D_X6_shares_0 : zDk cX6_shares T_X6_shares_0 = true := by decide +kernel
def T_X6_level_0 : zTb := [(0, .aload_n 0, 1), (1, .getfield 7, 3), (4, .bipush 62, 2), (6, .bipush 8, 2), (8, .iload_n 1, 1), (9, .imul, 1), (10, .iadd, 1), (11, .iload_n 2, 1), (12, .iadd, 1), (13, .iaload, 1), (14, .ireturn, 1)]
theorem D_X6_level_0 : zDk cX6_level T_X6_level_0 = true := by decide +kernel
def T_X6_levels_0 : zTb := [(0, .aload_n 0, 1), (1, .getfield 7, 3), (4, .bipush 62, 2), (6, .bipush 8, 2), (8, .iload_n 1, 1), (9, .imul, 1), (10, .iadd, 1), (11, .iload_n 2, 1), (12, .iadd, 1), (13, .iload_n 3, 1), (14, .iastore, 1), (15, .aload_n 0, 1), (16, .getfield 7, 3), (19, .bipush 62, 2), (21, .bipush 8, 2), (23, .iload_n 2, 1), (24, .imul, 1), (25, .iadd, 1), (26, .iload_n 1, 1), (27, .iadd, 1), (28, .iload_n 3, 1), (29, .iastore, 1), (30, .return_, 1)]
theorem D_X6_levels_0 : zDk cX6_levels T_X6_levels_0 = true := by decide +kernel
def T_X6_rest_0 : zTb := [(0, .bipush 10, 2), (2, .istore_n 2, 1), (3, .iconst 0, 1), (4, .istore_n 3, 1), (5, .iload_n 3, 1), (6, .aload_n 0, 1), (7, .getfield 7, 3), (10, .iconst 0, 1), (11, .iaload, 1), (12, .if_icmp .ge 18, 3), (15, .iload_n 2, 1), (16, .aload_n 0, 1), (17, .iload_n 3, 1), (18, .iload_n 1, 1), (19, .invokevirtual 54, 3), (22, .isub, 1), (23, .istore_n 2, 1), (24, .iinc 3 1, 3), (27, .goto (-22), 3), (30, .iload_n 2, 1), (31, .ireturn, 1)]
theorem D_X6_rest_0 : zDk cX6_rest T_X6_rest_0 = true := by decide +kernel
def T_X6_presides_0 : zTb := [(0, .iconst 0, 1), (1, .istore_n 2, 1), (2, .iconst 0, 1), (3, .istore_n 3, 1), (4, .iload_n 3, 1), (5, .aload_n 0, 1), (6, .getfield 7, 3), (9, .iconst 0, 1), (10, .iaload, 1), (11, .if_icmp .ge 30, 3), (14, .aload_n 0, 1), (15, .iload_n 3, 1), (16, .iload_n 1, 1), (17, .invokevirtual 54, 3), (20, .iload_n 2, 1), (21, .if_icmp .le 12, 3), (24, .aload_n 0, 1), (25, .iload_n 3, 1), (26, .iload_n 1, 1), (27, .invokevirtual 54, 3), (30, .goto 4, 3), (33, .iload_n 2, 1), (34, .istore_n 2, 1), (35, .iinc 3 1, 3), (38, .goto (-34), 3), (41, .aload_n 0, 1), (42, .iload_n 1, 1), (43, .iconst 5, 1), (44, .invokevirtual 50, 3), (47, .istore_n 3, 1), (48, .iload_n 2, 1), (49, .ifCond .eq 18, 3), (52, .iload_n 3, 1), (53, .iconst (-1), 1), (54, .if_icmp .eq 13, 3), (57, .aload_n 0, 1), (58, .iload_n 3, 1), (59, .iload_n 1, 1), (60, .invokevirtual 54, 3), (63, .iload_n 2, 1), (64, .if_icmp .ge 48, 3), (67, .iconst (-1), 1), (68, .istore_n 3, 1), (69, .aload_n 0, 1), (70, .getfield 7, 3), (73, .iconst 0, 1), (74, .iaload, 1), (75, .iconst 1, 1), (76, .isub, 1), (77, .istore 4, 2), (79, .iload 4, 2), (81, .ifCond .lt 31, 3), (84, .iload_n 2, 1), (85, .ifCond .le 27, 3), (88, .aload_n 0, 1), (89, .iload 4, 2), (91, .iload_n 1, 1), (92, .invokevirtual 54, 3), (95, .iload_n 2, 1), (96, .if_icmp .ne 8, 3)]
theorem D_X6_presides_0 : zDk cX6_presides T_X6_presides_0 = true := by decide +kernel
def T_X6_presides_1 : zTb := [(99, .iload 4, 2), (101, .goto 4, 3), (104, .iload_n 3, 1), (105, .istore_n 3, 1), (106, .iinc 4 (-1), 3), (109, .goto (-30), 3), (112, .aload_n 0, 1), (113, .getfield 7, 3), (116, .bipush 34, 2), (118, .bipush 7, 2), (120, .iload_n 1, 1), (121, .imul, 1), (122, .iadd, 1), (123, .iconst 5, 1), (124, .iadd, 1), (125, .iload_n 3, 1), (126, .iastore, 1), (127, .return_, 1)]
theorem D_X6_presides_1 : zDk cX6_presides T_X6_presides_1 = true := by decide +kernel
def T_X6_shifts_0 : zTb := [(0, .bipush 34, 2), (2, .bipush 7, 2), (4, .iload_n 1, 1), (5, .imul, 1), (6, .iadd, 1), (7, .iconst 3, 1), (8, .iadd, 1), (9, .istore_n 3, 1), (10, .aload_n 0, 1), (11, .getfield 7, 3), (14, .iload_n 3, 1), (15, .dup2, 1), (16, .iaload, 1), (17, .iload_n 2, 1), (18, .iadd, 1), (19, .iastore, 1), (20, .aload_n 0, 1), (21, .getfield 7, 3), (24, .iload_n 3, 1), (25, .aload_n 0, 1), (26, .getfield 7, 3), (29, .iload_n 3, 1), (30, .iaload, 1), (31, .ifCond .ge 7, 3), (34, .iconst 0, 1), (35, .goto 25, 3), (38, .aload_n 0, 1), (39, .getfield 7, 3), (42, .iload_n 3, 1), (43, .iaload, 1), (44, .bipush 11, 2), (46, .if_icmp .le 8, 3), (49, .bipush 11, 2), (51, .goto 9, 3), (54, .aload_n 0, 1), (55, .getfield 7, 3), (58, .iload_n 3, 1), (59, .iaload, 1), (60, .iastore, 1), (61, .return_, 1)]
theorem D_X6_shifts_0 : zDk cX6_shifts T_X6_shifts_0 = true := by decide +kernel
def T_X6_pays_0 : zTb := [(0, .aload_n 0, 1), (1, .getfield 7, 3), (4, .bipush 14, 2), (6, .iload_n 1, 1), (7, .iadd, 1), (8, .dup2, 1), (9, .iaload, 1), (10, .iload_n 2, 1), (11, .isub, 1), (12, .iastore, 1), (13, .aload_n 0, 1), (14, .getfield 7, 3), (17, .bipush 6, 2), (19, .dup2, 1), (20, .iaload, 1), (21, .iload_n 2, 1), (22, .iadd, 1), (23, .iastore, 1), (24, .return_, 1)]
theorem D_X6_pays_0 : zDk cX6_pays T_X6_pays_0 = true := by decide +kernel
def T_X6_earns_0 : zTb := [(0, .aload_n 0, 1), (1, .getfield 7, 3), (4, .bipush 34, 2), (6, .bipush 7, 2), (8, .iload_n 1, 1), (9, .imul, 1), (10, .iadd, 1), (11, .iconst 2, 1), (12, .iadd, 1), (13, .dup2, 1), (14, .iaload, 1), (15, .iload_n 2, 1), (16, .iadd, 1), (17, .iastore, 1), (18, .aload_n 0, 1), (19, .getfield 7, 3), (22, .bipush 6, 2), (24, .dup2, 1), (25, .iaload, 1), (26, .iload_n 2, 1), (27, .isub, 1), (28, .iastore, 1), (29, .return_, 1)]
theorem D_X6_earns_0 : zDk cX6_earns T_X6_earns_0 = true := by decide +kernel
def T_X6_holds_0 : zTb := [(0, .aload_n 0, 1), (1, .getfield 7, 3), (4, .bipush 18, 2), (6, .iconst 4, 1), (7, .iload_n 1, 1), (8, .imul, 1), (9, .iadd, 1), (10, .iload_n 2, 1), (11, .iadd, 1), (12, .dup2, 1), (13, .iaload, 1), (14, .iload_n 3, 1), (15, .iadd, 1), (16, .iastore, 1), (17, .aload_n 0, 1), (18, .iload_n 2, 1), (19, .invokevirtual 57, 3), (22, .return_, 1)]
theorem D_X6_holds_0 : zDk cX6_holds T_X6_holds_0 = true := by decide +kernel
def T_X6_closes_0 : zTb := [(0, .iconst 0, 1), (1, .istore_n 2, 1), (2, .iload_n 2, 1), (3, .bipush 7, 2), (5, .if_icmp .ge 33, 3), (8, .aload_n 0, 1), (9, .getfield 7, 3), (12, .bipush 34, 2), (14, .bipush 7, 2), (16, .iload_n 1, 1), (17, .imul, 1), (18, .iadd, 1), (19, .iload_n 2, 1), (20, .iadd, 1), (21, .iload_n 2, 1), (22, .iconst 5, 1), (23, .if_icmp .ne 7, 3), (26, .iconst (-1), 1), (27, .goto 4, 3), (30, .iconst 0, 1), (31, .iastore, 1), (32, .iinc 2 1, 3), (35, .goto (-33), 3), (38, .iconst 0, 1), (39, .istore_n 2, 1), (40, .iload_n 2, 1), (41, .aload_n 0, 1), (42, .getfield 7, 3), (45, .iconst 0, 1), (46, .iaload, 1), (47, .if_icmp .ge 23, 3), (50, .aload_n 0, 1), (51, .getfield 7, 3), (54, .bipush 18, 2), (56, .iconst 4, 1), (57, .iload_n 2, 1), (58, .imul, 1), (59, .iadd, 1), (60, .iload_n 1, 1), (61, .iadd, 1), (62, .iconst 0, 1), (63, .iastore, 1), (64, .iinc 2 1, 3), (67, .goto (-27), 3), (70, .return_, 1)]
theorem D_X6_closes_0 : zDk cX6_closes T_X6_closes_0 = true := by decide +kernel
def T_X6_begin_0 : zTb := [(0, .aload_n 0, 1), (1, .iload_n 1, 1), (2, .iconst 2, 1), (3, .iconst 4, 1), (4, .invokestatic 46, 3), (7, .ifCond .eq 7, 3), (10, .iconst 0, 1), (11, .goto 4, 3), (14, .iconst 1, 1), (15, .invokevirtual 42, 3), (18, .ifCond .eq 5, 3), (21, .iconst 0, 1), (22, .ireturn, 1), (23, .aload_n 0, 1), (24, .invokevirtual 60, 3), (27, .aload_n 0, 1), (28, .getfield 7, 3), (31, .iconst 5, 1), (32, .iaload, 1), (33, .istore_n 2, 1), (34, .aload_n 0, 1), (35, .iload_n 1, 1), (36, .invokevirtual 31, 3), (39, .iload_n 2, 1), (40, .ireturn, 1)]
theorem D_X6_begin_0 : zDk cX6_begin T_X6_begin_0 = true := by decide +kernel
def T_X6_setTown_0 : zTb := [(0, .aload_n 0, 1), (1, .iload_n 1, 1), (2, .invokestatic 63, 3), (5, .ifCond .ne 7, 3), (8, .iconst 1, 1), (9, .goto 18, 3), (12, .iload_n 2, 1), (13, .iconst 0, 1), (14, .bipush 90, 2), (16, .invokestatic 46, 3), (19, .ifCond .eq 7, 3), (22, .iconst 0, 1), (23, .goto 4, 3), (26, .iconst 2, 1), (27, .invokevirtual 42, 3), (30, .ifCond .eq 5, 3), (33, .iconst 0, 1), (34, .ireturn, 1), (35, .aload_n 0, 1), (36, .invokevirtual 60, 3), (39, .aload_n 0, 1), (40, .getfield 7, 3), (43, .bipush 126, 2), (45, .iload_n 1, 1), (46, .iadd, 1), (47, .iaload, 1), (48, .istore_n 3, 1), (49, .aload_n 0, 1), (50, .getfield 7, 3), (53, .bipush 126, 2), (55, .iload_n 1, 1), (56, .iadd, 1), (57, .iload_n 2, 1), (58, .iastore, 1), (59, .iload_n 3, 1), (60, .ireturn, 1)]
theorem D_X6_setTown_0 : zDk cX6_setTown T_X6_setTown_0 = true := by decide +kernel
def T_X6_turns_0 : zTb := [(0, .aload_n 0, 1), (1, .getfield 7, 3), (4, .iconst 1, 1), (5, .aload_n 0, 1), (6, .getfield 7, 3), (9, .iconst 1, 1), (10, .iaload, 1), (11, .iconst 1, 1), (12, .iadd, 1), (13, .aload_n 0, 1), (14, .getfield 7, 3), (17, .iconst 0, 1), (18, .iaload, 1), (19, .irem, 1), (20, .iastore, 1), (21, .return_, 1)]
theorem D_X6_turns_0 : zDk cX6_turns T_X6_turns_0 = true := by decide +kernel
def T_X6_ends_0 : zTb := [(0, .aload_n 0, 1), (1, .getfield 7, 3), (4, .iconst 2, 1), (5, .iconst 0, 1), (6, .iastore, 1), (7, .aload_n 0, 1), (8, .invokevirtual 66, 3), (11, .return_, 1)]
theorem D_X6_ends_0 : zDk cX6_ends T_X6_ends_0 = true := by decide +kernel
def T_X6_isStock_0 : zTb := [(0, .aload_n 0, 1), (1, .getfield 7, 3), (4, .iconst 3, 1), (5, .iaload, 1), (6, .ifCond .ne 7, 3), (9, .iconst 1, 1), (10, .goto 4, 3), (13, .iconst 0, 1), (14, .ireturn, 1)]
theorem D_X6_isStock_0 : zDk cX6_isStock T_X6_isStock_0 = true := by decide +kernel
def T_X6_purse_0 : zTb := [(0, .aload_n 0, 1), (1, .getfield 7, 3), (4, .bipush 14, 2), (6, .aload_n 0, 1), (7, .getfield 7, 3), (10, .iconst 1, 1), (11, .iaload, 1), (12, .iadd, 1), (13, .iaload, 1), (14, .ireturn, 1)]
theorem D_X6_purse_0 : zDk cX6_purse T_X6_purse_0 = true := by decide +kernel
def T_X6_start_0 : zTb := [(0, .iload_n 1, 1), (1, .invokestatic 69, 3), (4, .ifCond .eq 10, 3), (7, .iload_n 2, 1), (8, .invokestatic 63, 3), (11, .ifCond .ne 7, 3), (14, .iconst 1, 1), (15, .goto 18, 3), (18, .iload_n 3, 1), (19, .iconst 2, 1), (20, .bipush 8, 2), (22, .invokestatic 46, 3), (25, .ifCond .ne 7, 3), (28, .iconst 2, 1), (29, .goto 4, 3), (32, .iconst 0, 1), (33, .istore 4, 2), (35, .aload_n 0, 1), (36, .iload 4, 2), (38, .ifCond .le 8, 3), (41, .iload 4, 2), (43, .goto 39, 3), (46, .aload_n 0, 1), (47, .invokevirtual 72, 3), (50, .ifCond .eq 27, 3), (53, .aload_n 0, 1), (54, .iload_n 1, 1), (55, .invokevirtual 76, 3), (58, .ifCond .ne 19, 3), (61, .aload_n 0, 1), (62, .invokevirtual 79, 3), (65, .iconst 2, 1), (66, .bipush 20, 2), (68, .bipush 10, 2), (70, .iload_n 3, 1), (71, .imul, 1), (72, .iadd, 1), (73, .imul, 1), (74, .if_icmp .ge 7, 3), (77, .iconst 3, 1), (78, .goto 4, 3), (81, .iconst 0, 1), (82, .invokevirtual 42, 3), (85, .ifCond .eq 5, 3), (88, .iconst 0, 1), (89, .ireturn, 1), (90, .aload_n 0, 1), (91, .invokevirtual 60, 3), (94, .bipush 34, 2), (96, .bipush 7, 2), (98, .iload_n 1, 1), (99, .imul, 1), (100, .iadd, 1), (101, .istore 5, 2), (103, .aload_n 0, 1), (104, .getfield 7, 3), (107, .iload 5, 2), (109, .iconst 0, 1), (110, .iadd, 1), (111, .iconst 1, 1)]
theorem D_X6_start_0 : zDk cX6_start T_X6_start_0 = true := by decide +kernel
def T_X6_start_1 : zTb := [(112, .iastore, 1), (113, .aload_n 0, 1), (114, .getfield 7, 3), (117, .iload 5, 2), (119, .iconst 1, 1), (120, .iadd, 1), (121, .iload_n 2, 1), (122, .iastore, 1), (123, .aload_n 0, 1), (124, .getfield 7, 3), (127, .iload 5, 2), (129, .iconst 3, 1), (130, .iadd, 1), (131, .iload_n 3, 1), (132, .iastore, 1), (133, .aload_n 0, 1), (134, .getfield 7, 3), (137, .iload 5, 2), (139, .iconst 4, 1), (140, .iadd, 1), (141, .iconst 2, 1), (142, .iastore, 1), (143, .aload_n 0, 1), (144, .aload_n 0, 1), (145, .getfield 7, 3), (148, .iconst 1, 1), (149, .iaload, 1), (150, .iconst 2, 1), (151, .aload_n 0, 1), (152, .iload_n 1, 1), (153, .invokevirtual 83, 3), (156, .imul, 1), (157, .invokevirtual 87, 3), (160, .aload_n 0, 1), (161, .aload_n 0, 1), (162, .getfield 7, 3), (165, .iconst 1, 1), (166, .iaload, 1), (167, .iload_n 1, 1), (168, .iconst 2, 1), (169, .invokevirtual 91, 3), (172, .aload_n 0, 1), (173, .iload_n 1, 1), (174, .iconst 5, 1), (175, .aload_n 0, 1), (176, .iload_n 1, 1), (177, .invokevirtual 83, 3), (180, .imul, 1), (181, .invokevirtual 95, 3), (184, .aload_n 0, 1), (185, .invokevirtual 98, 3), (188, .aload_n 0, 1), (189, .iload_n 1, 1), (190, .iconst 2, 1), (191, .invokevirtual 50, 3), (194, .ireturn, 1)]
theorem D_X6_start_1 : zDk cX6_start T_X6_start_1 = true := by decide +kernel
def T_X6_canBuy_0 : zTb := [(0, .aload_n 0, 1), (1, .invokevirtual 72, 3), (4, .ifCond .eq 51, 3), (7, .aload_n 0, 1), (8, .iload_n 1, 1), (9, .invokevirtual 76, 3), (12, .ifCond .eq 43, 3), (15, .aload_n 0, 1), (16, .iload_n 1, 1), (17, .invokevirtual 101, 3), (20, .ifCond .le 35, 3), (23, .aload_n 0, 1), (24, .aload_n 0, 1), (25, .getfield 7, 3), (28, .iconst 1, 1), (29, .iaload, 1), (30, .iload_n 1, 1), (31, .invokevirtual 54, 3), (34, .bipush 6, 2), (36, .if_icmp .ge 19, 3), (39, .aload_n 0, 1), (40, .invokevirtual 79, 3), (43, .aload_n 0, 1), (44, .iload_n 1, 1), (45, .invokevirtual 83, 3), (48, .if_icmp .lt 7, 3), (51, .iconst 1, 1), (52, .goto 4, 3), (55, .iconst 0, 1), (56, .ireturn, 1)]
theorem D_X6_canBuy_0 : zDk cX6_canBuy T_X6_canBuy_0 = true := by decide +kernel
def T_X6_buys_0 : zTb := [(0, .aload_n 0, 1), (1, .getfield 7, 3), (4, .iconst 1, 1), (5, .iaload, 1), (6, .istore_n 2, 1), (7, .aload_n 0, 1), (8, .iload_n 2, 1), (9, .aload_n 0, 1), (10, .iload_n 1, 1), (11, .invokevirtual 83, 3), (14, .invokevirtual 87, 3), (17, .aload_n 0, 1), (18, .iload_n 2, 1), (19, .iload_n 1, 1), (20, .iconst 1, 1), (21, .invokevirtual 91, 3), (24, .aload_n 0, 1), (25, .invokevirtual 98, 3), (28, .aload_n 0, 1), (29, .iload_n 2, 1), (30, .iload_n 1, 1), (31, .invokevirtual 54, 3), (34, .ireturn, 1)]
theorem D_X6_buys_0 : zDk cX6_buys T_X6_buys_0 = true := by decide +kernel
def T_X6_buy_0 : zTb := [(0, .aload_n 0, 1), (1, .iload_n 1, 1), (2, .invokestatic 69, 3), (5, .ifCond .ne 7, 3), (8, .iconst 1, 1), (9, .goto 16, 3), (12, .aload_n 0, 1), (13, .iload_n 1, 1), (14, .invokevirtual 104, 3), (17, .ifCond .eq 7, 3), (20, .iconst 0, 1), (21, .goto 4, 3), (24, .iconst 2, 1), (25, .invokevirtual 42, 3), (28, .ifCond .eq 5, 3), (31, .iconst 0, 1), (32, .ireturn, 1), (33, .aload_n 0, 1), (34, .invokevirtual 60, 3), (37, .aload_n 0, 1), (38, .iload_n 1, 1), (39, .invokevirtual 107, 3), (42, .ireturn, 1)]
theorem D_X6_buy_0 : zDk cX6_buy T_X6_buy_0 = true := by decide +kernel
def T_X6_canSell_0 : zTb := [(0, .aload_n 0, 1), (1, .invokevirtual 72, 3), (4, .ifCond .eq 30, 3), (7, .aload_n 0, 1), (8, .iload_n 1, 1), (9, .invokevirtual 76, 3), (12, .ifCond .eq 22, 3), (15, .aload_n 0, 1), (16, .aload_n 0, 1), (17, .getfield 7, 3), (20, .iconst 1, 1), (21, .iaload, 1), (22, .iload_n 1, 1), (23, .invokevirtual 54, 3), (26, .iload_n 2, 1), (27, .if_icmp .lt 7, 3), (30, .iconst 1, 1), (31, .goto 4, 3), (34, .iconst 0, 1), (35, .ireturn, 1)]
theorem D_X6_canSell_0 : zDk cX6_canSell T_X6_canSell_0 = true := by decide +kernel
def T_X6_sells_0 : zTb := [(0, .aload_n 0, 1), (1, .aload_n 0, 1), (2, .getfield 7, 3), (5, .iconst 1, 1), (6, .iaload, 1), (7, .iload_n 2, 1), (8, .ineg, 1), (9, .aload_n 0, 1), (10, .iload_n 1, 1), (11, .invokevirtual 83, 3), (14, .imul, 1), (15, .invokevirtual 87, 3), (18, .aload_n 0, 1), (19, .aload_n 0, 1), (20, .getfield 7, 3), (23, .iconst 1, 1), (24, .iaload, 1), (25, .iload_n 1, 1), (26, .iload_n 2, 1), (27, .ineg, 1), (28, .invokevirtual 91, 3), (31, .aload_n 0, 1), (32, .iload_n 1, 1), (33, .iconst (-1), 1), (34, .invokevirtual 110, 3), (37, .aload_n 0, 1), (38, .invokevirtual 79, 3), (41, .ireturn, 1)]
theorem D_X6_sells_0 : zDk cX6_sells T_X6_sells_0 = true := by decide +kernel
def T_X6_sell_0 : zTb := [(0, .aload_n 0, 1), (1, .iload_n 1, 1), (2, .invokestatic 69, 3), (5, .ifCond .ne 7, 3), (8, .iconst 1, 1), (9, .goto 31, 3), (12, .iload_n 2, 1), (13, .iconst 1, 1), (14, .bipush 10, 2), (16, .invokestatic 46, 3), (19, .ifCond .ne 7, 3), (22, .iconst 2, 1), (23, .goto 17, 3), (26, .aload_n 0, 1), (27, .iload_n 1, 1), (28, .iload_n 2, 1), (29, .invokevirtual 113, 3), (32, .ifCond .eq 7, 3), (35, .iconst 0, 1), (36, .goto 4, 3), (39, .iconst 3, 1), (40, .invokevirtual 42, 3), (43, .ifCond .eq 5, 3), (46, .iconst 0, 1), (47, .ireturn, 1), (48, .aload_n 0, 1), (49, .invokevirtual 60, 3), (52, .aload_n 0, 1), (53, .iload_n 1, 1), (54, .iload_n 2, 1), (55, .invokevirtual 117, 3), (58, .ireturn, 1)]
theorem D_X6_sell_0 : zDk cX6_sell T_X6_sell_0 = true := by decide +kernel
def T_X6_wanted_0 : zTb := [(0, .iconst 0, 1), (1, .istore_n 2, 1), (2, .iconst 0, 1), (3, .istore_n 3, 1), (4, .iload_n 3, 1), (5, .aload_n 0, 1), (6, .getfield 7, 3), (9, .iconst 0, 1), (10, .iaload, 1), (11, .if_icmp .ge 20, 3), (14, .iload_n 2, 1), (15, .aload_n 0, 1), (16, .iload_n 3, 1), (17, .iload_n 1, 1), (18, .invokevirtual 54, 3), (21, .iconst 2, 1), (22, .idiv, 1), (23, .iadd, 1), (24, .istore_n 2, 1), (25, .iinc 3 1, 3), (28, .goto (-24), 3), (31, .iload_n 2, 1), (32, .ireturn, 1)]
theorem D_X6_wanted_0 : zDk cX6_wanted T_X6_wanted_0 = true := by decide +kernel
def T_X6_canMerge_0 : zTb := [(0, .aload_n 0, 1), (1, .invokevirtual 72, 3), (4, .ifCond .eq 66, 3), (7, .aload_n 0, 1), (8, .iload_n 1, 1), (9, .invokevirtual 76, 3), (12, .ifCond .eq 58, 3), (15, .aload_n 0, 1), (16, .iload_n 2, 1), (17, .invokevirtual 76, 3), (20, .ifCond .eq 50, 3), (23, .aload_n 0, 1), (24, .iload_n 1, 1), (25, .iconst 5, 1), (26, .invokevirtual 50, 3), (29, .aload_n 0, 1), (30, .getfield 7, 3), (33, .iconst 1, 1), (34, .iaload, 1), (35, .if_icmp .ne 35, 3), (38, .aload_n 0, 1), (39, .iload_n 2, 1), (40, .iconst 5, 1), (41, .invokevirtual 50, 3), (44, .aload_n 0, 1), (45, .getfield 7, 3), (48, .iconst 1, 1), (49, .iaload, 1), (50, .if_icmp .ne 20, 3), (53, .aload_n 0, 1), (54, .iload_n 1, 1), (55, .invokevirtual 101, 3), (58, .aload_n 0, 1), (59, .iload_n 2, 1), (60, .invokevirtual 120, 3), (63, .if_icmp .lt 7, 3), (66, .iconst 1, 1), (67, .goto 4, 3), (70, .iconst 0, 1), (71, .ireturn, 1)]
theorem D_X6_canMerge_0 : zDk cX6_canMerge T_X6_canMerge_0 = true := by decide +kernel
def T_X6_merge_0 : zTb := [(0, .aload_n 0, 1), (1, .iload_n 1, 1), (2, .invokestatic 69, 3), (5, .ifCond .eq 10, 3), (8, .iload_n 2, 1), (9, .invokestatic 69, 3), (12, .ifCond .ne 7, 3), (15, .iconst 1, 1), (16, .goto 26, 3), (19, .iload_n 1, 1), (20, .iload_n 2, 1), (21, .if_icmp .ne 7, 3), (24, .iconst 2, 1), (25, .goto 17, 3), (28, .aload_n 0, 1), (29, .iload_n 1, 1), (30, .iload_n 2, 1), (31, .invokevirtual 123, 3), (34, .ifCond .eq 7, 3), (37, .iconst 0, 1), (38, .goto 4, 3), (41, .iconst 3, 1), (42, .invokevirtual 42, 3), (45, .ifCond .eq 5, 3), (48, .iconst 0, 1), (49, .ireturn, 1), (50, .aload_n 0, 1), (51, .invokevirtual 60, 3), (54, .aload_n 0, 1), (55, .iload_n 2, 1), (56, .invokevirtual 83, 3), (59, .iconst 2, 1), (60, .idiv, 1), (61, .istore_n 3, 1), (62, .iconst 0, 1), (63, .istore 4, 2), (65, .iload 4, 2), (67, .aload_n 0, 1), (68, .getfield 7, 3), (71, .iconst 0, 1), (72, .iaload, 1), (73, .if_icmp .ge 59, 3), (76, .aload_n 0, 1), (77, .getfield 7, 3), (80, .bipush 18, 2), (82, .iconst 4, 1), (83, .iload 4, 2), (85, .imul, 1), (86, .iadd, 1), (87, .iload_n 1, 1), (88, .iadd, 1), (89, .dup2, 1), (90, .iaload, 1), (91, .aload_n 0, 1), (92, .iload 4, 2), (94, .iload_n 2, 1), (95, .invokevirtual 54, 3), (98, .iconst 2, 1), (99, .idiv, 1), (100, .iadd, 1)]
theorem D_X6_merge_0 : zDk cX6_merge T_X6_merge_0 = true := by decide +kernel
def T_X6_merge_1 : zTb := [(101, .iastore, 1), (102, .aload_n 0, 1), (103, .iload 4, 2), (105, .aload_n 0, 1), (106, .iload 4, 2), (108, .iload_n 2, 1), (109, .invokevirtual 54, 3), (112, .iconst 2, 1), (113, .irem, 1), (114, .ifCond .ne 7, 3), (117, .iconst 0, 1), (118, .goto 5, 3), (121, .iload_n 3, 1), (122, .ineg, 1), (123, .invokevirtual 87, 3), (126, .iinc 4 1, 3), (129, .goto (-64), 3), (132, .aload_n 0, 1), (133, .iload_n 1, 1), (134, .invokevirtual 57, 3), (137, .aload_n 0, 1), (138, .getfield 7, 3), (141, .bipush 34, 2), (143, .bipush 7, 2), (145, .iload_n 1, 1), (146, .imul, 1), (147, .iadd, 1), (148, .iconst 2, 1), (149, .iadd, 1), (150, .dup2, 1), (151, .iaload, 1), (152, .aload_n 0, 1), (153, .iload_n 2, 1), (154, .iconst 2, 1), (155, .invokevirtual 50, 3), (158, .iadd, 1), (159, .iastore, 1), (160, .aload_n 0, 1), (161, .iload_n 2, 1), (162, .invokevirtual 126, 3), (165, .aload_n 0, 1), (166, .invokevirtual 98, 3), (169, .aload_n 0, 1), (170, .iload_n 1, 1), (171, .iconst 2, 1), (172, .invokevirtual 50, 3), (175, .ireturn, 1)]
theorem D_X6_merge_1 : zDk cX6_merge T_X6_merge_1 = true := by decide +kernel
def T_X6_isAhead_0 : zTb := [(0, .aload_n 0, 1), (1, .iload_n 1, 1), (2, .invokevirtual 83, 3), (5, .aload_n 0, 1), (6, .iload_n 2, 1), (7, .invokevirtual 83, 3), (10, .if_icmp .gt 21, 3), (13, .aload_n 0, 1), (14, .iload_n 1, 1), (15, .invokevirtual 83, 3), (18, .aload_n 0, 1), (19, .iload_n 2, 1), (20, .invokevirtual 83, 3), (23, .if_icmp .ne 12, 3), (26, .iload_n 1, 1), (27, .iload_n 2, 1), (28, .if_icmp .ge 7, 3), (31, .iconst 1, 1), (32, .goto 4, 3), (35, .iconst 0, 1), (36, .ireturn, 1)]
theorem D_X6_isAhead_0 : zDk cX6_isAhead T_X6_isAhead_0 = true := by decide +kernel
def T_X6_orders_0 : zTb := [(0, .aload_n 0, 1), (1, .getfield 7, 3), (4, .bipush 9, 2), (6, .iconst 0, 1), (7, .iastore, 1), (8, .iconst 0, 1), (9, .istore_n 1, 1), (10, .iload_n 1, 1), (11, .iconst 4, 1), (12, .if_icmp .ge 19, 3), (15, .aload_n 0, 1), (16, .getfield 7, 3), (19, .bipush 10, 2), (21, .iload_n 1, 1), (22, .iadd, 1), (23, .iconst 0, 1), (24, .iastore, 1), (25, .iinc 1 1, 3), (28, .goto (-18), 3), (31, .iconst 0, 1), (32, .istore_n 1, 1), (33, .iload_n 1, 1), (34, .iconst 4, 1), (35, .if_icmp .ge 83, 3), (38, .iconst 0, 1), (39, .istore_n 2, 1), (40, .iconst 0, 1), (41, .istore_n 3, 1), (42, .iload_n 3, 1), (43, .iconst 4, 1), (44, .if_icmp .ge 39, 3), (47, .iload_n 2, 1), (48, .iload_n 3, 1), (49, .iload_n 1, 1), (50, .if_icmp .eq 24, 3), (53, .aload_n 0, 1), (54, .iload_n 3, 1), (55, .invokevirtual 76, 3), (58, .ifCond .eq 16, 3), (61, .aload_n 0, 1), (62, .iload_n 3, 1), (63, .iload_n 1, 1), (64, .invokevirtual 129, 3), (67, .ifCond .eq 7, 3), (70, .iconst 1, 1), (71, .goto 4, 3), (74, .iconst 0, 1), (75, .iadd, 1), (76, .istore_n 2, 1), (77, .iinc 3 1, 3), (80, .goto (-38), 3), (83, .aload_n 0, 1), (84, .iload_n 1, 1), (85, .invokevirtual 76, 3), (88, .ifCond .eq 24, 3), (91, .aload_n 0, 1), (92, .getfield 7, 3), (95, .bipush 10, 2), (97, .iload_n 2, 1), (98, .iadd, 1)]
theorem D_X6_orders_0 : zDk cX6_orders T_X6_orders_0 = true := by decide +kernel
def T_X6_orders_1 : zTb := [(99, .iload_n 1, 1), (100, .iastore, 1), (101, .aload_n 0, 1), (102, .getfield 7, 3), (105, .bipush 9, 2), (107, .dup2, 1), (108, .iaload, 1), (109, .iconst 1, 1), (110, .iadd, 1), (111, .iastore, 1), (112, .iinc 1 1, 3), (115, .goto (-82), 3), (118, .return_, 1)]
theorem D_X6_orders_1 : zDk cX6_orders T_X6_orders_1 = true := by decide +kernel
def T_X6_goesOn_0 : zTb := [(0, .aload_n 0, 1), (1, .getfield 7, 3), (4, .bipush 8, 2), (6, .iconst 0, 1), (7, .iastore, 1), (8, .aload_n 0, 1), (9, .getfield 7, 3), (12, .iconst 4, 1), (13, .iaload, 1), (14, .aload_n 0, 1), (15, .getfield 7, 3), (18, .bipush 9, 2), (20, .iaload, 1), (21, .if_icmp .ge 37, 3), (24, .aload_n 0, 1), (25, .aload_n 0, 1), (26, .getfield 7, 3), (29, .bipush 10, 2), (31, .aload_n 0, 1), (32, .getfield 7, 3), (35, .iconst 4, 1), (36, .iaload, 1), (37, .iadd, 1), (38, .iaload, 1), (39, .invokevirtual 76, 3), (42, .ifCond .ne 16, 3), (45, .aload_n 0, 1), (46, .getfield 7, 3), (49, .iconst 4, 1), (50, .dup2, 1), (51, .iaload, 1), (52, .iconst 1, 1), (53, .iadd, 1), (54, .iastore, 1), (55, .goto (-47), 3), (58, .aload_n 0, 1), (59, .getfield 7, 3), (62, .iconst 4, 1), (63, .iaload, 1), (64, .aload_n 0, 1), (65, .getfield 7, 3), (68, .bipush 9, 2), (70, .iaload, 1), (71, .if_icmp .ne 27, 3), (74, .aload_n 0, 1), (75, .getfield 7, 3), (78, .iconst 3, 1), (79, .iconst 0, 1), (80, .iastore, 1), (81, .aload_n 0, 1), (82, .getfield 7, 3), (85, .iconst 2, 1), (86, .iconst 0, 1), (87, .iastore, 1), (88, .aload_n 0, 1), (89, .getfield 7, 3), (92, .iconst 5, 1), (93, .dup2, 1), (94, .iaload, 1), (95, .iconst 1, 1)]
theorem D_X6_goesOn_0 : zDk cX6_goesOn T_X6_goesOn_0 = true := by decide +kernel
def T_X6_goesOn_1 : zTb := [(96, .iadd, 1), (97, .iastore, 1), (98, .return_, 1)]
theorem D_X6_goesOn_1 : zDk cX6_goesOn T_X6_goesOn_1 = true := by decide +kernel
def T_X6_passes_0 : zTb := [(0, .aload_n 0, 1), (1, .invokevirtual 66, 3), (4, .aload_n 0, 1), (5, .getfield 7, 3), (8, .iconst 2, 1), (9, .dup2, 1), (10, .iaload, 1), (11, .iconst 1, 1), (12, .iadd, 1), (13, .iastore, 1), (14, .aload_n 0, 1), (15, .getfield 7, 3), (18, .iconst 2, 1), (19, .iaload, 1), (20, .aload_n 0, 1), (21, .getfield 7, 3), (24, .iconst 0, 1), (25, .iaload, 1), (26, .if_icmp .ne 25, 3), (29, .aload_n 0, 1), (30, .getfield 7, 3), (33, .iconst 3, 1), (34, .iconst 1, 1), (35, .iastore, 1), (36, .aload_n 0, 1), (37, .getfield 7, 3), (40, .iconst 4, 1), (41, .iconst 0, 1), (42, .iastore, 1), (43, .aload_n 0, 1), (44, .invokevirtual 132, 3), (47, .aload_n 0, 1), (48, .invokevirtual 135, 3), (51, .aload_n 0, 1), (52, .getfield 7, 3), (55, .iconst 3, 1), (56, .iaload, 1), (57, .ireturn, 1)]
theorem D_X6_passes_0 : zDk cX6_passes T_X6_passes_0 = true := by decide +kernel
def T_X6_pass_0 : zTb := [(0, .aload_n 0, 1), (1, .aload_n 0, 1), (2, .invokevirtual 72, 3), (5, .ifCond .eq 7, 3), (8, .iconst 0, 1), (9, .goto 4, 3), (12, .iconst 1, 1), (13, .invokevirtual 42, 3), (16, .ifCond .eq 5, 3), (19, .iconst 0, 1), (20, .ireturn, 1), (21, .aload_n 0, 1), (22, .invokevirtual 60, 3), (25, .aload_n 0, 1), (26, .invokevirtual 138, 3), (29, .ireturn, 1)]
theorem D_X6_pass_0 : zDk cX6_pass T_X6_pass_0 = true := by decide +kernel
def T_X6_next_0 : zTb := [(0, .aload_n 0, 1), (1, .invokevirtual 72, 3), (4, .ifCond .eq 7, 3), (7, .iconst (-1), 1), (8, .goto 17, 3), (11, .aload_n 0, 1), (12, .getfield 7, 3), (15, .bipush 10, 2), (17, .aload_n 0, 1), (18, .getfield 7, 3), (21, .iconst 4, 1), (22, .iaload, 1), (23, .iadd, 1), (24, .iaload, 1), (25, .ireturn, 1)]
theorem D_X6_next_0 : zDk cX6_next T_X6_next_0 = true := by decide +kernel
def T_X6_extend_0 : zTb := [(0, .aload_n 0, 1), (1, .invokevirtual 141, 3), (4, .istore_n 1, 1), (5, .aload_n 0, 1), (6, .iload_n 1, 1), (7, .iconst (-1), 1), (8, .if_icmp .eq 35, 3), (11, .aload_n 0, 1), (12, .iload_n 1, 1), (13, .iconst 4, 1), (14, .invokevirtual 50, 3), (17, .iconst 5, 1), (18, .if_icmp .eq 25, 3), (21, .aload_n 0, 1), (22, .getfield 7, 3), (25, .bipush 8, 2), (27, .iaload, 1), (28, .iconst 1, 1), (29, .if_icmp .eq 14, 3), (32, .aload_n 0, 1), (33, .iload_n 1, 1), (34, .iconst 2, 1), (35, .invokevirtual 50, 3), (38, .bipush 60, 2), (40, .if_icmp .ge 7, 3), (43, .iconst 1, 1), (44, .goto 4, 3), (47, .iconst 0, 1), (48, .invokevirtual 42, 3), (51, .ifCond .eq 5, 3), (54, .iconst 0, 1), (55, .ireturn, 1), (56, .aload_n 0, 1), (57, .invokevirtual 60, 3), (60, .aload_n 0, 1), (61, .iload_n 1, 1), (62, .bipush (-60), 2), (64, .invokevirtual 95, 3), (67, .aload_n 0, 1), (68, .getfield 7, 3), (71, .bipush 34, 2), (73, .bipush 7, 2), (75, .iload_n 1, 1), (76, .imul, 1), (77, .iadd, 1), (78, .iconst 4, 1), (79, .iadd, 1), (80, .dup2, 1), (81, .iaload, 1), (82, .iconst 1, 1), (83, .iadd, 1), (84, .iastore, 1), (85, .aload_n 0, 1), (86, .getfield 7, 3), (89, .bipush 8, 2), (91, .iconst 1, 1), (92, .iastore, 1), (93, .aload_n 0, 1), (94, .iload_n 1, 1), (95, .iconst 4, 1)]
theorem D_X6_extend_0 : zDk cX6_extend T_X6_extend_0 = true := by decide +kernel
def T_X6_extend_1 : zTb := [(96, .invokevirtual 50, 3), (99, .ireturn, 1)]
theorem D_X6_extend_1 : zDk cX6_extend T_X6_extend_1 = true := by decide +kernel
def T_X6_joined_0 : zTb := [(0, .iconst 1, 1), (1, .aload_n 0, 1), (2, .iload_n 1, 1), (3, .iconst 1, 1), (4, .invokevirtual 50, 3), (7, .ishl, 1), (8, .istore_n 2, 1), (9, .iconst 0, 1), (10, .istore_n 3, 1), (11, .iload_n 2, 1), (12, .iload_n 3, 1), (13, .if_icmp .eq 63, 3), (16, .iload_n 2, 1), (17, .istore_n 3, 1), (18, .iconst 0, 1), (19, .istore 4, 2), (21, .iload 4, 2), (23, .bipush 64, 2), (25, .if_icmp .ge 48, 3), (28, .iload_n 2, 1), (29, .iload_n 3, 1), (30, .iload 4, 2), (32, .bipush 8, 2), (34, .idiv, 1), (35, .invokestatic 144, 3), (38, .ifCond .eq 26, 3), (41, .aload_n 0, 1), (42, .getfield 7, 3), (45, .bipush 62, 2), (47, .iload 4, 2), (49, .iadd, 1), (50, .iaload, 1), (51, .ifCond .le 13, 3), (54, .iconst 1, 1), (55, .iload 4, 2), (57, .bipush 8, 2), (59, .irem, 1), (60, .ishl, 1), (61, .goto 4, 3), (64, .iconst 0, 1), (65, .ior, 1), (66, .istore_n 2, 1), (67, .iinc 4 1, 3), (70, .goto (-49), 3), (73, .goto (-62), 3), (76, .iload_n 2, 1), (77, .ireturn, 1)]
theorem D_X6_joined_0 : zDk cX6_joined T_X6_joined_0 = true := by decide +kernel
def T_X6_canLay_0 : zTb := [(0, .aload_n 0, 1), (1, .iload_n 1, 1), (2, .invokevirtual 147, 3), (5, .istore 4, 2), (7, .aload_n 0, 1), (8, .iload_n 2, 1), (9, .iload_n 3, 1), (10, .invokevirtual 150, 3), (13, .istore 5, 2), (15, .iload_n 2, 1), (16, .iload_n 3, 1), (17, .if_icmp .eq 47, 3), (20, .iload 5, 2), (22, .iconst 2, 1), (23, .if_icmp .ge 41, 3), (26, .aload_n 0, 1), (27, .iload_n 1, 1), (28, .iconst 2, 1), (29, .invokevirtual 50, 3), (32, .bipush 20, 2), (34, .iload 5, 2), (36, .iconst 1, 1), (37, .iadd, 1), (38, .imul, 1), (39, .if_icmp .lt 25, 3), (42, .iload 4, 2), (44, .iload_n 2, 1), (45, .invokestatic 144, 3), (48, .ifCond .ne 12, 3), (51, .iload 4, 2), (53, .iload_n 3, 1), (54, .invokestatic 144, 3), (57, .ifCond .eq 7, 3), (60, .iconst 1, 1), (61, .goto 4, 3), (64, .iconst 0, 1), (65, .ireturn, 1)]
theorem D_X6_canLay_0 : zDk cX6_canLay T_X6_canLay_0 = true := by decide +kernel
def T_X6_comes_0 : zTb := [(0, .iload_n 1, 1), (1, .ifCond .ne 7, 3), (4, .iconst 1, 1), (5, .goto 4, 3), (8, .iconst 0, 1), (9, .istore_n 3, 1), (10, .aload_n 0, 1), (11, .getfield 22, 3), (14, .iload_n 1, 1), (15, .aload_n 0, 1), (16, .getfield 7, 3), (19, .bipush 126, 2), (21, .iload_n 2, 1), (22, .iadd, 1), (23, .iaload, 1), (24, .iload_n 3, 1), (25, .ifCond .eq 7, 3), (28, .iconst 0, 1), (29, .goto 11, 3), (32, .aload_n 0, 1), (33, .getfield 22, 3), (36, .iload_n 1, 1), (37, .iconst 1, 1), (38, .isub, 1), (39, .iaload, 1), (40, .iadd, 1), (41, .iload_n 3, 1), (42, .ifCond .ne 24, 3), (45, .aload_n 0, 1), (46, .aload_n 0, 1), (47, .getfield 19, 3), (50, .iload_n 1, 1), (51, .iconst 1, 1), (52, .isub, 1), (53, .iaload, 1), (54, .iload_n 2, 1), (55, .invokevirtual 150, 3), (58, .iconst 2, 1), (59, .if_icmp .ne 7, 3), (62, .iconst 5, 1), (63, .goto 4, 3), (66, .iconst 0, 1), (67, .iadd, 1), (68, .iastore, 1), (69, .aload_n 0, 1), (70, .getfield 25, 3), (73, .iload_n 1, 1), (74, .iconst 1, 1), (75, .iload_n 2, 1), (76, .ishl, 1), (77, .iload_n 3, 1), (78, .ifCond .eq 7, 3), (81, .iconst 0, 1), (82, .goto 11, 3), (85, .aload_n 0, 1), (86, .getfield 25, 3), (89, .iload_n 1, 1), (90, .iconst 1, 1), (91, .isub, 1), (92, .iaload, 1)]
theorem D_X6_comes_0 : zDk cX6_comes T_X6_comes_0 = true := by decide +kernel
def T_X6_comes_1 : zTb := [(93, .ior, 1), (94, .iastore, 1), (95, .return_, 1)]
theorem D_X6_comes_1 : zDk cX6_comes T_X6_comes_1 = true := by decide +kernel
def T_X6_keepsBest_0 : zTb := [(0, .aload_n 0, 1), (1, .aload_n 0, 1), (2, .getfield 22, 3), (5, .iload_n 1, 1), (6, .iaload, 1), (7, .putfield 153, 3), (10, .aload_n 0, 1), (11, .iload_n 1, 1), (12, .iconst 1, 1), (13, .iadd, 1), (14, .putfield 156, 3), (17, .iconst 0, 1), (18, .istore_n 2, 1), (19, .iload_n 2, 1), (20, .iload_n 1, 1), (21, .if_icmp .gt 21, 3), (24, .aload_n 0, 1), (25, .getfield 28, 3), (28, .iload_n 2, 1), (29, .aload_n 0, 1), (30, .getfield 19, 3), (33, .iload_n 2, 1), (34, .iaload, 1), (35, .iastore, 1), (36, .iinc 2 1, 3), (39, .goto (-20), 3), (42, .return_, 1)]
theorem D_X6_keepsBest_0 : zDk cX6_keepsBest T_X6_keepsBest_0 = true := by decide +kernel
def T_X6_findsRoute_0 : zTb := [(0, .aload_n 0, 1), (1, .iload_n 1, 1), (2, .iconst 1, 1), (3, .invokevirtual 50, 3), (6, .istore_n 2, 1), (7, .iconst 0, 1), (8, .istore_n 3, 1), (9, .aload_n 0, 1), (10, .getfield 19, 3), (13, .iconst 0, 1), (14, .iconst (-1), 1), (15, .iastore, 1), (16, .aload_n 0, 1), (17, .iconst 0, 1), (18, .putfield 156, 3), (21, .aload_n 0, 1), (22, .iconst 0, 1), (23, .putfield 153, 3), (26, .iload_n 3, 1), (27, .ifCond .lt 177, 3), (30, .aload_n 0, 1), (31, .getfield 19, 3), (34, .iload_n 3, 1), (35, .dup2, 1), (36, .iaload, 1), (37, .iconst 1, 1), (38, .iadd, 1), (39, .iastore, 1), (40, .aload_n 0, 1), (41, .getfield 19, 3), (44, .iload_n 3, 1), (45, .iaload, 1), (46, .istore 4, 2), (48, .iload 4, 2), (50, .bipush 8, 2), (52, .if_icmp .ge 44, 3), (55, .iload_n 3, 1), (56, .ifCond .eq 36, 3), (59, .aload_n 0, 1), (60, .getfield 25, 3), (63, .iload_n 3, 1), (64, .iconst 1, 1), (65, .isub, 1), (66, .iaload, 1), (67, .iload 4, 2), (69, .invokestatic 144, 3), (72, .ifCond .ne 24, 3), (75, .aload_n 0, 1), (76, .aload_n 0, 1), (77, .getfield 19, 3), (80, .iload_n 3, 1), (81, .iconst 1, 1), (82, .isub, 1), (83, .iaload, 1), (84, .iload 4, 2), (86, .invokevirtual 150, 3), (89, .ifCond .le 7, 3), (92, .iconst 1, 1), (93, .goto 4, 3), (96, .iconst 0, 1)]
theorem D_X6_findsRoute_0 : zDk cX6_findsRoute T_X6_findsRoute_0 = true := by decide +kernel
def T_X6_findsRoute_1 : zTb := [(97, .istore 5, 2), (99, .iload 5, 2), (101, .ifCond .eq 52, 3), (104, .aload_n 0, 1), (105, .iload_n 3, 1), (106, .iload 4, 2), (108, .invokevirtual 159, 3), (111, .iload_n 3, 1), (112, .ifCond .le 41, 3), (115, .aload_n 0, 1), (116, .getfield 25, 3), (119, .iload_n 3, 1), (120, .iaload, 1), (121, .iload_n 2, 1), (122, .invokestatic 144, 3), (125, .ifCond .eq 28, 3), (128, .aload_n 0, 1), (129, .getfield 156, 3), (132, .ifCond .eq 16, 3), (135, .aload_n 0, 1), (136, .getfield 22, 3), (139, .iload_n 3, 1), (140, .iaload, 1), (141, .aload_n 0, 1), (142, .getfield 153, 3), (145, .if_icmp .le 8, 3), (148, .aload_n 0, 1), (149, .iload_n 3, 1), (150, .invokevirtual 162, 3), (153, .iload 5, 2), (155, .ifCond .eq 25, 3), (158, .iload_n 3, 1), (159, .iconst 1, 1), (160, .iadd, 1), (161, .aload_n 0, 1), (162, .iload_n 1, 1), (163, .iconst 4, 1), (164, .invokevirtual 50, 3), (167, .if_icmp .ge 13, 3), (170, .iinc 3 1, 3), (173, .aload_n 0, 1), (174, .getfield 19, 3), (177, .iload_n 3, 1), (178, .iconst (-1), 1), (179, .iastore, 1), (180, .iload_n 3, 1), (181, .ifCond .lt 20, 3), (184, .aload_n 0, 1), (185, .getfield 19, 3), (188, .iload_n 3, 1), (189, .iaload, 1), (190, .bipush 8, 2), (192, .if_icmp .lt 9, 3), (195, .iinc 3 (-1), 3), (198, .goto (-18), 3), (201, .goto (-175), 3), (204, .return_, 1)]
theorem D_X6_findsRoute_1 : zDk cX6_findsRoute T_X6_findsRoute_1 = true := by decide +kernel
def T_X6_income_0 : zTb := [(0, .aload_n 0, 1), (1, .iload_n 1, 1), (2, .invokevirtual 165, 3), (5, .aload_n 0, 1), (6, .getfield 153, 3), (9, .ireturn, 1)]
theorem D_X6_income_0 : zDk cX6_income T_X6_income_0 = true := by decide +kernel
def T_X6_cheapest_0 : zTb := [(0, .iconst (-1), 1), (1, .istore_n 2, 1), (2, .iconst 0, 1), (3, .istore_n 3, 1), (4, .iload_n 3, 1), (5, .iconst 4, 1), (6, .if_icmp .ge 62, 3), (9, .aload_n 0, 1), (10, .iload_n 3, 1), (11, .invokevirtual 76, 3), (14, .ifCond .eq 16, 3), (17, .aload_n 0, 1), (18, .iload_n 1, 1), (19, .iload_n 3, 1), (20, .invokevirtual 54, 3), (23, .ifCond .le 7, 3), (26, .iconst 1, 1), (27, .goto 4, 3), (30, .iconst 0, 1), (31, .istore 4, 2), (33, .iload 4, 2), (35, .ifCond .eq 25, 3), (38, .iload_n 2, 1), (39, .iconst (-1), 1), (40, .if_icmp .eq 16, 3), (43, .aload_n 0, 1), (44, .iload_n 3, 1), (45, .invokevirtual 83, 3), (48, .aload_n 0, 1), (49, .iload_n 2, 1), (50, .invokevirtual 83, 3), (53, .if_icmp .ge 7, 3), (56, .iload_n 3, 1), (57, .goto 4, 3), (60, .iload_n 2, 1), (61, .istore_n 2, 1), (62, .iinc 3 1, 3), (65, .goto (-61), 3), (68, .iload_n 2, 1), (69, .ireturn, 1)]
theorem D_X6_cheapest_0 : zDk cX6_cheapest T_X6_cheapest_0 = true := by decide +kernel
def T_X6_isPaid_0 : zTb := [(0, .aload_n 0, 1), (1, .iload_n 1, 1), (2, .iconst 5, 1), (3, .invokevirtual 50, 3), (6, .istore_n 3, 1), (7, .iload_n 2, 1), (8, .ifCond .eq 8, 3), (11, .iload_n 3, 1), (12, .iconst (-1), 1), (13, .if_icmp .ne 13, 3), (16, .iload_n 2, 1), (17, .ifCond .ne 7, 3), (20, .iconst 1, 1), (21, .goto 4, 3), (24, .iconst 0, 1), (25, .ireturn, 1), (26, .aload_n 0, 1), (27, .iload_n 3, 1), (28, .invokevirtual 168, 3), (31, .istore 4, 2), (33, .aload_n 0, 1), (34, .getfield 7, 3), (37, .bipush 14, 2), (39, .iload_n 3, 1), (40, .iadd, 1), (41, .iaload, 1), (42, .iload_n 2, 1), (43, .if_icmp .ge 46, 3), (46, .iload 4, 2), (48, .iconst (-1), 1), (49, .if_icmp .eq 40, 3), (52, .aload_n 0, 1), (53, .iload_n 3, 1), (54, .aload_n 0, 1), (55, .iload 4, 2), (57, .invokevirtual 83, 3), (60, .ineg, 1), (61, .invokevirtual 87, 3), (64, .aload_n 0, 1), (65, .iload_n 3, 1), (66, .iload 4, 2), (68, .iconst (-1), 1), (69, .invokevirtual 91, 3), (72, .aload_n 0, 1), (73, .iload 4, 2), (75, .iconst (-1), 1), (76, .invokevirtual 110, 3), (79, .aload_n 0, 1), (80, .iload_n 3, 1), (81, .invokevirtual 168, 3), (84, .istore 4, 2), (86, .goto (-53), 3), (89, .aload_n 0, 1), (90, .getfield 7, 3), (93, .bipush 14, 2), (95, .iload_n 3, 1), (96, .iadd, 1), (97, .iaload, 1), (98, .iload_n 2, 1), (99, .if_icmp .ge 15, 3)]
theorem D_X6_isPaid_0 : zDk cX6_isPaid T_X6_isPaid_0 = true := by decide +kernel
def T_X6_isPaid_1 : zTb := [(102, .aload_n 0, 1), (103, .getfield 7, 3), (106, .bipush 14, 2), (108, .iload_n 3, 1), (109, .iadd, 1), (110, .iaload, 1), (111, .goto 4, 3), (114, .iload_n 2, 1), (115, .istore 5, 2), (117, .aload_n 0, 1), (118, .iload_n 3, 1), (119, .iload 5, 2), (121, .invokevirtual 87, 3), (124, .iload 5, 2), (126, .iload_n 2, 1), (127, .if_icmp .ne 7, 3), (130, .iconst 1, 1), (131, .goto 4, 3), (134, .iconst 0, 1), (135, .ireturn, 1)]
theorem D_X6_isPaid_1 : zDk cX6_isPaid T_X6_isPaid_1 = true := by decide +kernel
def T_X6_upkeep_0 : zTb := [(0, .iconst 5, 1), (1, .aload_n 0, 1), (2, .iload_n 1, 1), (3, .iconst 4, 1), (4, .invokevirtual 50, 3), (7, .imul, 1), (8, .istore_n 2, 1), (9, .aload_n 0, 1), (10, .iload_n 1, 1), (11, .iconst 2, 1), (12, .invokevirtual 50, 3), (15, .iload_n 2, 1), (16, .if_icmp .ge 12, 3), (19, .aload_n 0, 1), (20, .iload_n 1, 1), (21, .iconst 2, 1), (22, .invokevirtual 50, 3), (25, .goto 4, 3), (28, .iload_n 2, 1), (29, .istore_n 3, 1), (30, .aload_n 0, 1), (31, .iload_n 1, 1), (32, .iload_n 3, 1), (33, .ineg, 1), (34, .invokevirtual 95, 3), (37, .aload_n 0, 1), (38, .iload_n 1, 1), (39, .iload_n 2, 1), (40, .iload_n 3, 1), (41, .isub, 1), (42, .invokevirtual 171, 3), (45, .ifCond .ne 31, 3), (48, .aload_n 0, 1), (49, .iload_n 1, 1), (50, .aload_n 0, 1), (51, .iload_n 1, 1), (52, .iconst 2, 1), (53, .invokevirtual 50, 3), (56, .ineg, 1), (57, .invokevirtual 95, 3), (60, .aload_n 0, 1), (61, .iload_n 1, 1), (62, .invokevirtual 126, 3), (65, .aload_n 0, 1), (66, .getfield 7, 3), (69, .bipush 7, 2), (71, .dup2, 1), (72, .iaload, 1), (73, .iconst 1, 1), (74, .iadd, 1), (75, .iastore, 1), (76, .return_, 1)]
theorem D_X6_upkeep_0 : zDk cX6_upkeep T_X6_upkeep_0 = true := by decide +kernel
def T_X6_canOperate_0 : zTb := [(0, .aload_n 0, 1), (1, .invokevirtual 72, 3), (4, .ifCond .ne 25, 3), (7, .iload_n 1, 1), (8, .iconst (-1), 1), (9, .if_icmp .eq 16, 3), (12, .aload_n 0, 1), (13, .aload_n 0, 1), (14, .invokevirtual 141, 3), (17, .iload_n 1, 1), (18, .iload_n 2, 1), (19, .invokevirtual 174, 3), (22, .ifCond .eq 7, 3), (25, .iconst 1, 1), (26, .goto 4, 3), (29, .iconst 0, 1), (30, .ireturn, 1)]
theorem D_X6_canOperate_0 : zDk cX6_canOperate T_X6_canOperate_0 = true := by decide +kernel
def T_X6_operates_0 : zTb := [(0, .aload_n 0, 1), (1, .invokevirtual 141, 3), (4, .istore 4, 2), (6, .iload_n 1, 1), (7, .iconst (-1), 1), (8, .if_icmp .eq 32, 3), (11, .aload_n 0, 1), (12, .iload_n 1, 1), (13, .iload_n 2, 1), (14, .invokevirtual 150, 3), (17, .iconst 1, 1), (18, .iadd, 1), (19, .istore 5, 2), (21, .aload_n 0, 1), (22, .iload 4, 2), (24, .bipush (-20), 2), (26, .iload 5, 2), (28, .imul, 1), (29, .invokevirtual 95, 3), (32, .aload_n 0, 1), (33, .iload_n 1, 1), (34, .iload_n 2, 1), (35, .iload 5, 2), (37, .invokevirtual 177, 3), (40, .aload_n 0, 1), (41, .iload 4, 2), (43, .invokevirtual 180, 3), (46, .istore 5, 2), (48, .iload_n 3, 1), (49, .ifCond .eq 47, 3), (52, .iconst 0, 1), (53, .istore 6, 2), (55, .iload 6, 2), (57, .aload_n 0, 1), (58, .getfield 7, 3), (61, .iconst 0, 1), (62, .iaload, 1), (63, .if_icmp .ge 30, 3), (66, .aload_n 0, 1), (67, .iload 6, 2), (69, .aload_n 0, 1), (70, .iload 6, 2), (72, .iload 4, 2), (74, .invokevirtual 54, 3), (77, .ineg, 1), (78, .iload 5, 2), (80, .bipush 10, 2), (82, .idiv, 1), (83, .imul, 1), (84, .invokevirtual 87, 3), (87, .iinc 6 1, 3), (90, .goto (-35), 3), (93, .goto 11, 3), (96, .aload_n 0, 1), (97, .iload 4, 2), (99, .iload 5, 2), (101, .invokevirtual 95, 3), (104, .aload_n 0, 1), (105, .iload 4, 2), (107, .iload_n 3, 1)]
theorem D_X6_operates_0 : zDk cX6_operates T_X6_operates_0 = true := by decide +kernel
def T_X6_operates_1 : zTb := [(108, .ifCond .eq 12, 3), (111, .iload 5, 2), (113, .ifCond .le 7, 3), (116, .iconst 1, 1), (117, .goto 4, 3), (120, .iconst (-1), 1), (121, .invokevirtual 110, 3), (124, .aload_n 0, 1), (125, .getfield 7, 3), (128, .bipush 34, 2), (130, .bipush 7, 2), (132, .iload 4, 2), (134, .imul, 1), (135, .iadd, 1), (136, .bipush 6, 2), (138, .iadd, 1), (139, .iload 5, 2), (141, .iastore, 1), (142, .aload_n 0, 1), (143, .iload 4, 2), (145, .invokevirtual 183, 3), (148, .aload_n 0, 1), (149, .getfield 7, 3), (152, .iconst 4, 1), (153, .dup2, 1), (154, .iaload, 1), (155, .iconst 1, 1), (156, .iadd, 1), (157, .iastore, 1), (158, .aload_n 0, 1), (159, .invokevirtual 135, 3), (162, .iload 5, 2), (164, .ireturn, 1)]
theorem D_X6_operates_1 : zDk cX6_operates T_X6_operates_1 = true := by decide +kernel
def T_X6_operate_0 : zTb := [(0, .iload_n 1, 1), (1, .iconst (-1), 1), (2, .if_icmp .ne 12, 3), (5, .iload_n 2, 1), (6, .iconst (-1), 1), (7, .if_icmp .ne 7, 3), (10, .iconst 1, 1), (11, .goto 4, 3), (14, .iconst 0, 1), (15, .istore 4, 2), (17, .aload_n 0, 1), (18, .iload 4, 2), (20, .ifCond .ne 21, 3), (23, .iload_n 1, 1), (24, .invokestatic 63, 3), (27, .ifCond .eq 10, 3), (30, .iload_n 2, 1), (31, .invokestatic 63, 3), (34, .ifCond .ne 7, 3), (37, .iconst 1, 1), (38, .goto 31, 3), (41, .iload 4, 2), (43, .ifCond .ne 12, 3), (46, .iload_n 1, 1), (47, .iload_n 2, 1), (48, .if_icmp .ne 7, 3), (51, .iconst 2, 1), (52, .goto 17, 3), (55, .aload_n 0, 1), (56, .iload_n 1, 1), (57, .iload_n 2, 1), (58, .invokevirtual 186, 3), (61, .ifCond .eq 7, 3), (64, .iconst 0, 1), (65, .goto 4, 3), (68, .iconst 3, 1), (69, .invokevirtual 42, 3), (72, .ifCond .eq 5, 3), (75, .iconst 0, 1), (76, .ireturn, 1), (77, .aload_n 0, 1), (78, .invokevirtual 60, 3), (81, .aload_n 0, 1), (82, .iload_n 1, 1), (83, .iload_n 2, 1), (84, .iload_n 3, 1), (85, .invokevirtual 189, 3), (88, .ireturn, 1)]
theorem D_X6_operate_0 : zDk cX6_operate T_X6_operate_0 = true := by decide +kernel
def T_X6_worth_0 : zTb := [(0, .aload_n 0, 1), (1, .getfield 7, 3), (4, .bipush 14, 2), (6, .iload_n 1, 1), (7, .iadd, 1), (8, .iaload, 1), (9, .istore_n 2, 1), (10, .iconst 0, 1), (11, .istore_n 3, 1), (12, .iload_n 3, 1), (13, .iconst 4, 1), (14, .if_icmp .ge 24, 3), (17, .iload_n 2, 1), (18, .aload_n 0, 1), (19, .iload_n 1, 1), (20, .iload_n 3, 1), (21, .invokevirtual 54, 3), (24, .aload_n 0, 1), (25, .iload_n 3, 1), (26, .invokevirtual 83, 3), (29, .imul, 1), (30, .iadd, 1), (31, .istore_n 2, 1), (32, .iinc 3 1, 3), (35, .goto (-23), 3), (38, .iload_n 2, 1), (39, .ireturn, 1)]
theorem D_X6_worth_0 : zDk cX6_worth T_X6_worth_0 = true := by decide +kernel
def T_X6_presidencies_0 : zTb := [(0, .iconst 0, 1), (1, .istore_n 2, 1), (2, .iconst 0, 1), (3, .istore_n 3, 1), (4, .iload_n 3, 1), (5, .iconst 4, 1), (6, .if_icmp .ge 29, 3), (9, .iload_n 2, 1), (10, .aload_n 0, 1), (11, .iload_n 3, 1), (12, .iconst 5, 1), (13, .invokevirtual 50, 3), (16, .iload_n 1, 1), (17, .if_icmp .ne 9, 3), (20, .iconst 1, 1), (21, .iload_n 3, 1), (22, .ishl, 1), (23, .goto 4, 3), (26, .iconst 0, 1), (27, .ior, 1), (28, .istore_n 2, 1), (29, .iinc 3 1, 3), (32, .goto (-28), 3), (35, .iload_n 2, 1), (36, .ireturn, 1)]
theorem D_X6_presidencies_0 : zDk cX6_presidencies T_X6_presidencies_0 = true := by decide +kernel
def T_X6_tellPlayer_0 : zTb := [(0, .iload_n 2, 1), (1, .ifCond .ne 15, 3), (4, .aload_n 0, 1), (5, .getfield 7, 3), (8, .bipush 14, 2), (10, .iload_n 1, 1), (11, .iadd, 1), (12, .iaload, 1), (13, .goto 37, 3), (16, .iload_n 2, 1), (17, .iconst 5, 1), (18, .if_icmp .ge 14, 3), (21, .aload_n 0, 1), (22, .iload_n 1, 1), (23, .iload_n 2, 1), (24, .iconst 1, 1), (25, .isub, 1), (26, .invokevirtual 54, 3), (29, .goto 21, 3), (32, .iload_n 2, 1), (33, .iconst 5, 1), (34, .if_icmp .ne 11, 3), (37, .aload_n 0, 1), (38, .iload_n 1, 1), (39, .invokevirtual 193, 3), (42, .goto 8, 3), (45, .aload_n 0, 1), (46, .iload_n 1, 1), (47, .invokevirtual 196, 3), (50, .ireturn, 1)]
theorem D_X6_tellPlayer_0 : zDk cX6_tellPlayer T_X6_tellPlayer_0 = true := by decide +kernel
def T_X6_player_0 : zTb := [(0, .aload_n 0, 1), (1, .aload_n 0, 1), (2, .iload_n 1, 1), (3, .invokevirtual 199, 3), (6, .ifCond .ne 7, 3), (9, .iconst 1, 1), (10, .goto 18, 3), (13, .iload_n 2, 1), (14, .iconst 0, 1), (15, .bipush 6, 2), (17, .invokestatic 46, 3), (20, .ifCond .eq 7, 3), (23, .iconst 0, 1), (24, .goto 4, 3), (27, .iconst 2, 1), (28, .invokevirtual 42, 3), (31, .ifCond .eq 7, 3), (34, .iconst 0, 1), (35, .goto 9, 3), (38, .aload_n 0, 1), (39, .iload_n 1, 1), (40, .iload_n 2, 1), (41, .invokevirtual 202, 3), (44, .ireturn, 1)]
theorem D_X6_player_0 : zDk cX6_player T_X6_player_0 = true := by decide +kernel
def T_X6_tellCompany_0 : zTb := [(0, .aload_n 0, 1), (1, .iload_n 1, 1), (2, .invokevirtual 76, 3), (5, .ifCond .ne 13, 3), (8, .iload_n 2, 1), (9, .ifCond .ne 7, 3), (12, .iconst 0, 1), (13, .goto 4, 3), (16, .iconst (-1), 1), (17, .ireturn, 1), (18, .iload_n 2, 1), (19, .tableswitch 93 0 7 #[45, 47, 54, 61, 67, 74, 81, 87], 45), (64, .iconst 1, 1), (65, .ireturn, 1), (66, .aload_n 0, 1), (67, .iload_n 1, 1), (68, .iconst 1, 1), (69, .invokevirtual 50, 3), (72, .ireturn, 1), (73, .aload_n 0, 1), (74, .iload_n 1, 1), (75, .iconst 2, 1), (76, .invokevirtual 50, 3), (79, .ireturn, 1), (80, .aload_n 0, 1), (81, .iload_n 1, 1), (82, .invokevirtual 83, 3), (85, .ireturn, 1), (86, .aload_n 0, 1), (87, .iload_n 1, 1), (88, .iconst 4, 1), (89, .invokevirtual 50, 3), (92, .ireturn, 1), (93, .aload_n 0, 1), (94, .iload_n 1, 1), (95, .iconst 5, 1), (96, .invokevirtual 50, 3), (99, .ireturn, 1), (100, .aload_n 0, 1), (101, .iload_n 1, 1), (102, .invokevirtual 101, 3), (105, .ireturn, 1), (106, .aload_n 0, 1), (107, .iload_n 1, 1), (108, .invokevirtual 180, 3), (111, .ireturn, 1), (112, .aload_n 0, 1), (113, .iload_n 1, 1), (114, .bipush 6, 2), (116, .invokevirtual 50, 3), (119, .ireturn, 1)]
theorem D_X6_tellCompany_0 : zDk cX6_tellCompany T_X6_tellCompany_0 = true := by decide +kernel
def T_X6_company_0 : zTb := [(0, .aload_n 0, 1), (1, .iload_n 1, 1), (2, .invokestatic 69, 3), (5, .ifCond .ne 7, 3), (8, .iconst 1, 1), (9, .goto 18, 3), (12, .iload_n 2, 1), (13, .iconst 0, 1), (14, .bipush 8, 2), (16, .invokestatic 46, 3), (19, .ifCond .eq 7, 3), (22, .iconst 0, 1), (23, .goto 4, 3), (26, .iconst 2, 1), (27, .invokevirtual 42, 3), (30, .ifCond .eq 7, 3), (33, .iconst 0, 1), (34, .goto 9, 3), (37, .aload_n 0, 1), (38, .iload_n 1, 1), (39, .iload_n 2, 1), (40, .invokevirtual 205, 3), (43, .ireturn, 1)]
theorem D_X6_company_0 : zDk cX6_company T_X6_company_0 = true := by decide +kernel
def T_X6_track_0 : zTb := [(0, .aload_n 0, 1), (1, .iload_n 1, 1), (2, .invokestatic 63, 3), (5, .ifCond .eq 14, 3), (8, .iload_n 2, 1), (9, .invokestatic 63, 3), (12, .ifCond .eq 7, 3), (15, .iconst 0, 1), (16, .goto 4, 3), (19, .iconst 1, 1), (20, .invokevirtual 42, 3), (23, .ifCond .eq 7, 3), (26, .iconst 0, 1), (27, .goto 9, 3), (30, .aload_n 0, 1), (31, .iload_n 1, 1), (32, .iload_n 2, 1), (33, .invokevirtual 150, 3), (36, .ireturn, 1)]
theorem D_X6_track_0 : zDk cX6_track T_X6_track_0 = true := by decide +kernel
def T_X6_tracks_0 : zTb := [(0, .iconst 0, 1), (1, .istore_n 1, 1), (2, .iconst 0, 1), (3, .istore_n 2, 1), (4, .iload_n 2, 1), (5, .bipush 64, 2), (7, .if_icmp .ge 29, 3), (10, .iload_n 1, 1), (11, .aload_n 0, 1), (12, .getfield 7, 3), (15, .bipush 62, 2), (17, .iload_n 2, 1), (18, .iadd, 1), (19, .iaload, 1), (20, .ifCond .le 7, 3), (23, .iconst 1, 1), (24, .goto 4, 3), (27, .iconst 0, 1), (28, .iadd, 1), (29, .istore_n 1, 1), (30, .iinc 2 1, 3), (33, .goto (-29), 3), (36, .iload_n 1, 1), (37, .iconst 2, 1), (38, .idiv, 1), (39, .ireturn, 1)]
theorem D_X6_tracks_0 : zDk cX6_tracks T_X6_tracks_0 = true := by decide +kernel
def T_X6_openOnes_0 : zTb := [(0, .iconst 0, 1), (1, .istore_n 1, 1), (2, .iconst 0, 1), (3, .istore_n 2, 1), (4, .iload_n 2, 1), (5, .iconst 4, 1), (6, .if_icmp .ge 18, 3), (9, .iload_n 1, 1), (10, .aload_n 0, 1), (11, .iload_n 2, 1), (12, .iconst 0, 1), (13, .invokevirtual 50, 3), (16, .iadd, 1), (17, .istore_n 1, 1), (18, .iinc 2 1, 3), (21, .goto (-17), 3), (24, .iload_n 1, 1), (25, .ireturn, 1)]
theorem D_X6_openOnes_0 : zDk cX6_openOnes T_X6_openOnes_0 = true := by decide +kernel
def T_X6_tellValue_0 : zTb := [(0, .iload_n 1, 1), (1, .tableswitch 109 0 8 #[51, 58, 65, 72, 79, 84, 91, 99, 104], 51), (52, .aload_n 0, 1), (53, .getfield 7, 3), (56, .iconst 0, 1), (57, .iaload, 1), (58, .ireturn, 1), (59, .aload_n 0, 1), (60, .getfield 7, 3), (63, .iconst 1, 1), (64, .iaload, 1), (65, .ireturn, 1), (66, .aload_n 0, 1), (67, .getfield 7, 3), (70, .iconst 2, 1), (71, .iaload, 1), (72, .ireturn, 1), (73, .aload_n 0, 1), (74, .getfield 7, 3), (77, .iconst 3, 1), (78, .iaload, 1), (79, .ireturn, 1), (80, .aload_n 0, 1), (81, .invokevirtual 141, 3), (84, .ireturn, 1), (85, .aload_n 0, 1), (86, .getfield 7, 3), (89, .iconst 5, 1), (90, .iaload, 1), (91, .ireturn, 1), (92, .aload_n 0, 1), (93, .getfield 7, 3), (96, .bipush 6, 2), (98, .iaload, 1), (99, .ireturn, 1), (100, .aload_n 0, 1), (101, .invokevirtual 208, 3), (104, .ireturn, 1), (105, .aload_n 0, 1), (106, .invokevirtual 211, 3), (109, .ireturn, 1), (110, .aload_n 0, 1), (111, .getfield 7, 3), (114, .bipush 7, 2), (116, .iaload, 1), (117, .ireturn, 1)]
theorem D_X6_tellValue_0 : zDk cX6_tellValue T_X6_tellValue_0 = true := by decide +kernel
def T_X6_value_0 : zTb := [(0, .aload_n 0, 1), (1, .iload_n 1, 1), (2, .iconst 0, 1), (3, .bipush 9, 2), (5, .invokestatic 46, 3), (8, .ifCond .eq 7, 3), (11, .iconst 0, 1), (12, .goto 4, 3), (15, .iconst 1, 1), (16, .invokevirtual 42, 3), (19, .ifCond .eq 7, 3), (22, .iconst 0, 1), (23, .goto 8, 3), (26, .aload_n 0, 1), (27, .iload_n 1, 1), (28, .invokevirtual 214, 3), (31, .ireturn, 1)]
theorem D_X6_value_0 : zDk cX6_value T_X6_value_0 = true := by decide +kernel
def T_X6_town_0 : zTb := [(0, .aload_n 0, 1), (1, .iload_n 1, 1), (2, .invokestatic 63, 3), (5, .ifCond .eq 7, 3), (8, .iconst 0, 1), (9, .goto 4, 3), (12, .iconst 1, 1), (13, .invokevirtual 42, 3), (16, .ifCond .eq 7, 3), (19, .iconst 0, 1), (20, .goto 12, 3), (23, .aload_n 0, 1), (24, .getfield 7, 3), (27, .bipush 126, 2), (29, .iload_n 1, 1), (30, .iadd, 1), (31, .iaload, 1), (32, .ireturn, 1)]
theorem D_X6_town_0 : zDk cX6_town T_X6_town_0 = true := by decide +kernel
def T_X6_route_0 : zTb := [(0, .aload_n 0, 1), (1, .iload_n 1, 1), (2, .invokestatic 69, 3), (5, .ifCond .eq 11, 3), (8, .iload_n 2, 1), (9, .ifCond .lt 7, 3), (12, .iconst 0, 1), (13, .goto 4, 3), (16, .iconst 1, 1), (17, .invokevirtual 42, 3), (20, .ifCond .eq 5, 3), (23, .iconst 0, 1), (24, .ireturn, 1), (25, .aload_n 0, 1), (26, .iload_n 1, 1), (27, .invokevirtual 76, 3), (30, .ifCond .ne 5, 3), (33, .iconst (-1), 1), (34, .ireturn, 1), (35, .aload_n 0, 1), (36, .iload_n 1, 1), (37, .invokevirtual 165, 3), (40, .iload_n 2, 1), (41, .aload_n 0, 1), (42, .getfield 156, 3), (45, .if_icmp .ge 12, 3), (48, .aload_n 0, 1), (49, .getfield 28, 3), (52, .iload_n 2, 1), (53, .iaload, 1), (54, .goto 4, 3), (57, .iconst (-1), 1), (58, .ireturn, 1)]
theorem D_X6_route_0 : zDk cX6_route T_X6_route_0 = true := by decide +kernel
def T_X6_incomeBy_0 : zTb := [(0, .aload_n 0, 1), (1, .iload_n 2, 1), (2, .iload_n 3, 1), (3, .invokevirtual 150, 3), (6, .istore 4, 2), (8, .aload_n 0, 1), (9, .iload_n 2, 1), (10, .iload_n 3, 1), (11, .iload 4, 2), (13, .iconst 1, 1), (14, .iadd, 1), (15, .invokevirtual 177, 3), (18, .aload_n 0, 1), (19, .iload_n 1, 1), (20, .invokevirtual 180, 3), (23, .istore 5, 2), (25, .aload_n 0, 1), (26, .iload_n 2, 1), (27, .iload_n 3, 1), (28, .iload 4, 2), (30, .invokevirtual 177, 3), (33, .iload 5, 2), (35, .ireturn, 1)]
theorem D_X6_incomeBy_0 : zDk cX6_incomeBy T_X6_incomeBy_0 = true := by decide +kernel
def T_X6_incomeWith_0 : zTb := [(0, .aload_n 0, 1), (1, .iload_n 1, 1), (2, .invokestatic 69, 3), (5, .ifCond .eq 17, 3), (8, .iload_n 2, 1), (9, .invokestatic 63, 3), (12, .ifCond .eq 10, 3), (15, .iload_n 3, 1), (16, .invokestatic 63, 3), (19, .ifCond .ne 7, 3), (22, .iconst 1, 1), (23, .goto 13, 3), (26, .iload_n 2, 1), (27, .iload_n 3, 1), (28, .if_icmp .ne 7, 3), (31, .iconst 2, 1), (32, .goto 4, 3), (35, .iconst 0, 1), (36, .invokevirtual 42, 3), (39, .ifCond .eq 5, 3), (42, .iconst 0, 1), (43, .ireturn, 1), (44, .aload_n 0, 1), (45, .iload_n 1, 1), (46, .invokevirtual 76, 3), (49, .ifCond .eq 23, 3), (52, .aload_n 0, 1), (53, .iload_n 2, 1), (54, .iload_n 3, 1), (55, .invokevirtual 150, 3), (58, .iconst 2, 1), (59, .if_icmp .ge 13, 3), (62, .aload_n 0, 1), (63, .iload_n 1, 1), (64, .iload_n 2, 1), (65, .iload_n 3, 1), (66, .invokevirtual 217, 3), (69, .goto 4, 3), (72, .iconst (-1), 1), (73, .ireturn, 1)]
theorem D_X6_incomeWith_0 : zDk cX6_incomeWith T_X6_incomeWith_0 = true := by decide +kernel
def T_X6_bestTrack_0 : zTb := [(0, .aload_n 0, 1), (1, .iload_n 1, 1), (2, .invokestatic 69, 3), (5, .ifCond .eq 7, 3), (8, .iconst 0, 1), (9, .goto 4, 3), (12, .iconst 1, 1), (13, .invokevirtual 42, 3), (16, .ifCond .eq 5, 3), (19, .iconst 0, 1), (20, .ireturn, 1), (21, .iconst (-1), 1), (22, .istore_n 2, 1), (23, .iconst 0, 1), (24, .istore_n 3, 1), (25, .iconst 0, 1), (26, .istore 4, 2), (28, .iload 4, 2), (30, .bipush 64, 2), (32, .if_icmp .ge 119, 3), (35, .aload_n 0, 1), (36, .iload_n 1, 1), (37, .invokevirtual 76, 3), (40, .ifCond .eq 111, 3), (43, .iload 4, 2), (45, .bipush 8, 2), (47, .idiv, 1), (48, .istore 5, 2), (50, .iload 4, 2), (52, .bipush 8, 2), (54, .irem, 1), (55, .istore 6, 2), (57, .iload 5, 2), (59, .iload 6, 2), (61, .if_icmp .ge 27, 3), (64, .aload_n 0, 1), (65, .iload_n 1, 1), (66, .iload 5, 2), (68, .iload 6, 2), (70, .invokevirtual 174, 3), (73, .ifCond .eq 15, 3), (76, .aload_n 0, 1), (77, .iload_n 1, 1), (78, .iload 5, 2), (80, .iload 6, 2), (82, .invokevirtual 217, 3), (85, .goto 4, 3), (88, .iconst (-1), 1), (89, .istore 7, 2), (91, .iload 7, 2), (93, .iconst (-1), 1), (94, .if_icmp .eq 18, 3), (97, .iload_n 2, 1), (98, .iconst (-1), 1), (99, .if_icmp .eq 9, 3), (102, .iload 7, 2), (104, .iload_n 3, 1), (105, .if_icmp .le 7, 3), (108, .iconst 1, 1), (109, .goto 4, 3)]
theorem D_X6_bestTrack_0 : zDk cX6_bestTrack T_X6_bestTrack_0 = true := by decide +kernel
def T_X6_bestTrack_1 : zTb := [(112, .iconst 0, 1), (113, .istore 8, 2), (115, .iload 8, 2), (117, .ifCond .eq 14, 3), (120, .bipush 10, 2), (122, .iload 5, 2), (124, .imul, 1), (125, .iload 6, 2), (127, .iadd, 1), (128, .goto 4, 3), (131, .iload_n 2, 1), (132, .istore_n 2, 1), (133, .iload 8, 2), (135, .ifCond .eq 8, 3), (138, .iload 7, 2), (140, .goto 4, 3), (143, .iload_n 3, 1), (144, .istore_n 3, 1), (145, .iinc 4 1, 3), (148, .goto (-120), 3), (151, .iload_n 2, 1), (152, .ireturn, 1)]
theorem D_X6_bestTrack_1 : zDk cX6_bestTrack T_X6_bestTrack_1 = true := by decide +kernel
def T_X6_dividend_0 : zTb := [(0, .aload_n 0, 1), (1, .iload_n 1, 1), (2, .invokestatic 69, 3), (5, .ifCond .eq 7, 3), (8, .iconst 0, 1), (9, .goto 4, 3), (12, .iconst 1, 1), (13, .invokevirtual 42, 3), (16, .ifCond .ne 11, 3), (19, .aload_n 0, 1), (20, .iload_n 1, 1), (21, .invokevirtual 76, 3), (24, .ifCond .ne 7, 3), (27, .iconst 0, 1), (28, .goto 11, 3), (31, .aload_n 0, 1), (32, .iload_n 1, 1), (33, .invokevirtual 180, 3), (36, .bipush 10, 2), (38, .idiv, 1), (39, .ireturn, 1)]
theorem D_X6_dividend_0 : zDk cX6_dividend T_X6_dividend_0 = true := by decide +kernel
def T_X6_leader_0 : zTb := [(0, .aload_n 0, 1), (1, .iconst 0, 1), (2, .putfield 35, 3), (5, .iconst 0, 1), (6, .istore_n 1, 1), (7, .iconst 1, 1), (8, .istore_n 2, 1), (9, .iload_n 2, 1), (10, .aload_n 0, 1), (11, .getfield 7, 3), (14, .iconst 0, 1), (15, .iaload, 1), (16, .if_icmp .ge 28, 3), (19, .aload_n 0, 1), (20, .iload_n 2, 1), (21, .invokevirtual 193, 3), (24, .aload_n 0, 1), (25, .iload_n 1, 1), (26, .invokevirtual 193, 3), (29, .if_icmp .le 7, 3), (32, .iload_n 2, 1), (33, .goto 4, 3), (36, .iload_n 1, 1), (37, .istore_n 1, 1), (38, .iinc 2 1, 3), (41, .goto (-32), 3), (44, .iload_n 1, 1), (45, .ireturn, 1)]
theorem D_X6_leader_0 : zDk cX6_leader T_X6_leader_0 = true := by decide +kernel
def T_X6_unsold_0 : zTb := [(0, .aload_n 0, 1), (1, .iconst 0, 1), (2, .putfield 35, 3), (5, .iconst 0, 1), (6, .istore_n 1, 1), (7, .iconst 0, 1), (8, .istore_n 2, 1), (9, .iload_n 2, 1), (10, .iconst 4, 1), (11, .if_icmp .ge 29, 3), (14, .iload_n 1, 1), (15, .aload_n 0, 1), (16, .iload_n 2, 1), (17, .invokevirtual 76, 3), (20, .ifCond .eq 11, 3), (23, .aload_n 0, 1), (24, .iload_n 2, 1), (25, .invokevirtual 101, 3), (28, .goto 4, 3), (31, .iconst 0, 1), (32, .iadd, 1), (33, .istore_n 1, 1), (34, .iinc 2 1, 3), (37, .goto (-28), 3), (40, .bipush 10, 2), (42, .aload_n 0, 1), (43, .invokevirtual 211, 3), (46, .imul, 1), (47, .istore_n 2, 1), (48, .iload_n 2, 1), (49, .ifCond .ne 7, 3), (52, .dconst 0, 1), (53, .goto 8, 3), (56, .iload_n 1, 1), (57, .i2d, 1), (58, .iload_n 2, 1), (59, .i2d, 1), (60, .ddiv, 1), (61, .dreturn, 1)]
theorem D_X6_unsold_0 : zDk cX6_unsold T_X6_unsold_0 = true := by decide +kernel
def T_X6_append_0 : zTb := [(0, .aload_n 0, 1), (1, .iload_n 1, 1), (2, .iconst 0, 1), (3, .bipush 127, 2), (5, .invokestatic 46, 3), (8, .ifCond .ne 7, 3), (11, .iconst 1, 1), (12, .goto 17, 3), (15, .aload_n 0, 1), (16, .getfield 221, 3), (19, .bipush 90, 2), (21, .if_icmp .ne 7, 3), (24, .iconst 2, 1), (25, .goto 4, 3), (28, .iconst 0, 1), (29, .invokevirtual 42, 3), (32, .ifCond .eq 5, 3), (35, .iconst 0, 1), (36, .ireturn, 1), (37, .aload_n 0, 1), (38, .getfield 16, 3), (41, .aload_n 0, 1), (42, .getfield 221, 3), (45, .iload_n 1, 1), (46, .iastore, 1), (47, .aload_n 0, 1), (48, .dup, 1), (49, .getfield 221, 3), (52, .iconst 1, 1), (53, .iadd, 1), (54, .putfield 221, 3), (57, .aload_n 0, 1), (58, .getfield 221, 3), (61, .ireturn, 1)]
theorem D_X6_append_0 : zDk cX6_append T_X6_append_0 = true := by decide +kernel
def T_X6_clearText_0 : zTb := [(0, .aload_n 0, 1), (1, .iconst 0, 1), (2, .putfield 35, 3), (5, .aload_n 0, 1), (6, .getfield 221, 3), (9, .istore_n 1, 1), (10, .aload_n 0, 1), (11, .iconst 0, 1), (12, .putfield 221, 3), (15, .iload_n 1, 1), (16, .ireturn, 1)]
theorem D_X6_clearText_0 : zDk cX6_clearText T_X6_clearText_0 = true := by decide +kernel
def T_X6_isDigit_0 : zTb := [(0, .aload_n 0, 1), (1, .getfield 224, 3), (4, .aload_n 0, 1), (5, .getfield 221, 3), (8, .if_icmp .ge 30, 3), (11, .aload_n 0, 1), (12, .getfield 16, 3), (15, .aload_n 0, 1), (16, .getfield 224, 3), (19, .iaload, 1), (20, .bipush 48, 2), (22, .iload_n 1, 1), (23, .iadd, 1), (24, .bipush 48, 2), (26, .iload_n 2, 1), (27, .iadd, 1), (28, .invokestatic 46, 3), (31, .ifCond .eq 7, 3), (34, .iconst 1, 1), (35, .goto 4, 3), (38, .iconst 0, 1), (39, .ireturn, 1)]
theorem D_X6_isDigit_0 : zDk cX6_isDigit T_X6_isDigit_0 = true := by decide +kernel
def T_X6_digit_0 : zTb := [(0, .aload_n 0, 1), (1, .getfield 16, 3), (4, .aload_n 0, 1), (5, .getfield 224, 3), (8, .iaload, 1), (9, .bipush 48, 2), (11, .isub, 1), (12, .istore_n 1, 1), (13, .aload_n 0, 1), (14, .dup, 1), (15, .getfield 224, 3), (18, .iconst 1, 1), (19, .iadd, 1), (20, .putfield 224, 3), (23, .iload_n 1, 1), (24, .ireturn, 1)]
theorem D_X6_digit_0 : zDk cX6_digit T_X6_digit_0 = true := by decide +kernel
def T_X6_takesDigits_0 : zTb := [(0, .aload_n 0, 1), (1, .getfield 227, 3), (4, .bipush 112, 2), (6, .if_icmp .ne 5, 3), (9, .iconst 1, 1), (10, .ireturn, 1), (11, .aload_n 0, 1), (12, .getfield 227, 3), (15, .bipush 111, 2), (17, .if_icmp .eq 12, 3), (20, .aload_n 0, 1), (21, .getfield 227, 3), (24, .bipush 107, 2), (26, .if_icmp .ne 64, 3), (29, .aload_n 0, 1), (30, .iconst 0, 1), (31, .bipush 7, 2), (33, .invokevirtual 230, 3), (36, .ifCond .ne 5, 3), (39, .iconst 1, 1), (40, .ireturn, 1), (41, .aload_n 0, 1), (42, .aload_n 0, 1), (43, .invokevirtual 233, 3), (46, .putfield 236, 3), (49, .aload_n 0, 1), (50, .iconst 0, 1), (51, .bipush 7, 2), (53, .invokevirtual 230, 3), (56, .ifCond .eq 22, 3), (59, .aload_n 0, 1), (60, .getfield 16, 3), (63, .aload_n 0, 1), (64, .getfield 224, 3), (67, .iaload, 1), (68, .bipush 48, 2), (70, .isub, 1), (71, .aload_n 0, 1), (72, .getfield 236, 3), (75, .if_icmp .ne 5, 3), (78, .iconst 0, 1), (79, .ireturn, 1), (80, .aload_n 0, 1), (81, .aload_n 0, 1), (82, .invokevirtual 233, 3), (85, .putfield 239, 3), (88, .iconst 1, 1), (89, .ireturn, 1), (90, .aload_n 0, 1), (91, .iconst 0, 1), (92, .iconst 3, 1), (93, .invokevirtual 230, 3), (96, .ifCond .ne 5, 3), (99, .iconst 0, 1), (100, .ireturn, 1), (101, .aload_n 0, 1), (102, .aload_n 0, 1), (103, .invokevirtual 233, 3), (106, .putfield 236, 3), (109, .aload_n 0, 1)]
theorem D_X6_takesDigits_0 : zDk cX6_takesDigits T_X6_takesDigits_0 = true := by decide +kernel
def T_X6_takesDigits_1 : zTb := [(110, .getfield 227, 3), (113, .bipush 120, 2), (115, .if_icmp .ne 23, 3), (118, .aload_n 0, 1), (119, .iconst 1, 1), (120, .bipush 9, 2), (122, .invokevirtual 230, 3), (125, .ifCond .ne 5, 3), (128, .iconst 0, 1), (129, .ireturn, 1), (130, .aload_n 0, 1), (131, .aload_n 0, 1), (132, .invokevirtual 233, 3), (135, .putfield 239, 3), (138, .iconst 1, 1), (139, .ireturn, 1)]
theorem D_X6_takesDigits_1 : zDk cX6_takesDigits T_X6_takesDigits_1 = true := by decide +kernel
def T_X6_takesMove_0 : zTb := [(0, .aload_n 0, 1), (1, .aload_n 0, 1), (2, .getfield 16, 3), (5, .aload_n 0, 1), (6, .getfield 224, 3), (9, .iaload, 1), (10, .putfield 227, 3), (13, .aload_n 0, 1), (14, .iconst (-1), 1), (15, .putfield 236, 3), (18, .aload_n 0, 1), (19, .iconst (-1), 1), (20, .putfield 239, 3), (23, .aload_n 0, 1), (24, .getfield 227, 3), (27, .bipush 98, 2), (29, .if_icmp .eq 41, 3), (32, .aload_n 0, 1), (33, .getfield 227, 3), (36, .bipush 120, 2), (38, .if_icmp .eq 32, 3), (41, .aload_n 0, 1), (42, .getfield 227, 3), (45, .bipush 112, 2), (47, .if_icmp .eq 23, 3), (50, .aload_n 0, 1), (51, .getfield 227, 3), (54, .bipush 111, 2), (56, .if_icmp .eq 14, 3), (59, .aload_n 0, 1), (60, .getfield 227, 3), (63, .bipush 107, 2), (65, .if_icmp .eq 5, 3), (68, .iconst 0, 1), (69, .ireturn, 1), (70, .aload_n 0, 1), (71, .dup, 1), (72, .getfield 224, 3), (75, .iconst 1, 1), (76, .iadd, 1), (77, .putfield 224, 3), (80, .aload_n 0, 1), (81, .invokevirtual 242, 3), (84, .ifCond .eq 28, 3), (87, .aload_n 0, 1), (88, .getfield 224, 3), (91, .aload_n 0, 1), (92, .getfield 221, 3), (95, .if_icmp .eq 17, 3), (98, .aload_n 0, 1), (99, .getfield 16, 3), (102, .aload_n 0, 1), (103, .getfield 224, 3), (106, .iaload, 1), (107, .bipush 59, 2), (109, .if_icmp .eq 5, 3), (112, .iconst 0, 1), (113, .ireturn, 1), (114, .aload_n 0, 1), (115, .dup, 1)]
theorem D_X6_takesMove_0 : zDk cX6_takesMove T_X6_takesMove_0 = true := by decide +kernel
def T_X6_takesMove_1 : zTb := [(116, .getfield 224, 3), (119, .iconst 1, 1), (120, .iadd, 1), (121, .putfield 224, 3), (124, .iconst 1, 1), (125, .ireturn, 1)]
theorem D_X6_takesMove_1 : zDk cX6_takesMove T_X6_takesMove_1 = true := by decide +kernel
def T_X6_makes_0 : zTb := [(0, .aload_n 0, 1), (1, .getfield 227, 3), (4, .bipush 112, 2), (6, .if_icmp .ne 10, 3), (9, .aload_n 0, 1), (10, .invokevirtual 72, 3), (13, .goto 59, 3), (16, .aload_n 0, 1), (17, .getfield 227, 3), (20, .bipush 98, 2), (22, .if_icmp .ne 14, 3), (25, .aload_n 0, 1), (26, .aload_n 0, 1), (27, .getfield 236, 3), (30, .invokevirtual 104, 3), (33, .goto 39, 3), (36, .aload_n 0, 1), (37, .getfield 227, 3), (40, .bipush 120, 2), (42, .if_icmp .ne 18, 3), (45, .aload_n 0, 1), (46, .aload_n 0, 1), (47, .getfield 236, 3), (50, .aload_n 0, 1), (51, .getfield 239, 3), (54, .invokevirtual 113, 3), (57, .goto 15, 3), (60, .aload_n 0, 1), (61, .aload_n 0, 1), (62, .getfield 236, 3), (65, .aload_n 0, 1), (66, .getfield 239, 3), (69, .invokevirtual 186, 3), (72, .istore_n 1, 1), (73, .iload_n 1, 1), (74, .ifCond .eq 100, 3), (77, .aload_n 0, 1), (78, .getfield 227, 3), (81, .bipush 112, 2), (83, .if_icmp .ne 10, 3), (86, .aload_n 0, 1), (87, .invokevirtual 138, 3), (90, .goto 73, 3), (93, .aload_n 0, 1), (94, .getfield 227, 3), (97, .bipush 98, 2), (99, .if_icmp .ne 14, 3), (102, .aload_n 0, 1), (103, .aload_n 0, 1), (104, .getfield 236, 3), (107, .invokevirtual 107, 3), (110, .goto 53, 3), (113, .aload_n 0, 1), (114, .getfield 227, 3), (117, .bipush 120, 2), (119, .if_icmp .ne 18, 3), (122, .aload_n 0, 1), (123, .aload_n 0, 1), (124, .getfield 236, 3), (127, .aload_n 0, 1)]
theorem D_X6_makes_0 : zDk cX6_makes T_X6_makes_0 = true := by decide +kernel
def T_X6_makes_1 : zTb := [(128, .getfield 239, 3), (131, .invokevirtual 117, 3), (134, .goto 29, 3), (137, .aload_n 0, 1), (138, .aload_n 0, 1), (139, .getfield 236, 3), (142, .aload_n 0, 1), (143, .getfield 239, 3), (146, .aload_n 0, 1), (147, .getfield 227, 3), (150, .bipush 111, 2), (152, .if_icmp .ne 7, 3), (155, .iconst 1, 1), (156, .goto 4, 3), (159, .iconst 0, 1), (160, .invokevirtual 189, 3), (163, .istore_n 2, 1), (164, .iload_n 2, 1), (165, .ifCond .lt 7, 3), (168, .iconst 1, 1), (169, .goto 4, 3), (172, .iconst 0, 1), (173, .istore_n 1, 1), (174, .iload_n 1, 1), (175, .ireturn, 1)]
theorem D_X6_makes_1 : zDk cX6_makes T_X6_makes_1 = true := by decide +kernel
def T_X6_play_0 : zTb := [(0, .aload_n 0, 1), (1, .iconst 0, 1), (2, .putfield 35, 3), (5, .aload_n 0, 1), (6, .iconst 0, 1), (7, .putfield 224, 3), (10, .aload_n 0, 1), (11, .getfield 224, 3), (14, .aload_n 0, 1), (15, .getfield 221, 3), (18, .if_icmp .ge 18, 3), (21, .aload_n 0, 1), (22, .invokevirtual 245, 3), (25, .ifCond .ne (-15), 3), (28, .bipush (-10), 2), (30, .aload_n 0, 1), (31, .getfield 224, 3), (34, .isub, 1), (35, .ireturn, 1), (36, .aload_n 0, 1), (37, .invokevirtual 60, 3), (40, .aload_n 0, 1), (41, .iconst 0, 1), (42, .putfield 224, 3), (45, .iconst 0, 1), (46, .istore_n 1, 1), (47, .aload_n 0, 1), (48, .getfield 224, 3), (51, .aload_n 0, 1), (52, .getfield 221, 3), (55, .if_icmp .ge 23, 3), (58, .aload_n 0, 1), (59, .invokevirtual 245, 3), (62, .ifCond .eq 16, 3), (65, .aload_n 0, 1), (66, .invokevirtual 248, 3), (69, .ifCond .eq 9, 3), (72, .iinc 1 1, 3), (75, .goto (-28), 3), (78, .iload_n 1, 1), (79, .ireturn, 1)]
theorem D_X6_play_0 : zDk cX6_play T_X6_play_0 = true := by decide +kernel
def T_X6_mix_0 : zTb := [(0, .aload_n 0, 1), (1, .ldc2_w 251, 3), (4, .aload_n 0, 1), (5, .getfield 253, 3), (8, .lmul, 1), (9, .iload_n 1, 1), (10, .i2l, 1), (11, .ladd, 1), (12, .putfield 253, 3), (15, .return_, 1)]
theorem D_X6_mix_0 : zDk cX6_mix T_X6_mix_0 = true := by decide +kernel
def T_X6_digest_0 : zTb := [(0, .aload_n 0, 1), (1, .iconst 0, 1), (2, .putfield 35, 3), (5, .aload_n 0, 1), (6, .ldc2_w 257, 3), (9, .putfield 253, 3), (12, .aload_n 0, 1), (13, .aload_n 0, 1), (14, .getfield 221, 3), (17, .invokevirtual 259, 3), (20, .iconst 0, 1), (21, .istore_n 1, 1), (22, .iload_n 1, 1), (23, .bipush 9, 2), (25, .if_icmp .gt 18, 3), (28, .aload_n 0, 1), (29, .aload_n 0, 1), (30, .iload_n 1, 1), (31, .invokevirtual 214, 3), (34, .invokevirtual 259, 3), (37, .iinc 1 1, 3), (40, .goto (-18), 3), (43, .iconst 0, 1), (44, .istore_n 1, 1), (45, .iload_n 1, 1), (46, .aload_n 0, 1), (47, .getfield 7, 3), (50, .iconst 0, 1), (51, .iaload, 1), (52, .if_icmp .ge 33, 3), (55, .iconst 0, 1), (56, .istore_n 2, 1), (57, .iload_n 2, 1), (58, .bipush 6, 2), (60, .if_icmp .gt 19, 3), (63, .aload_n 0, 1), (64, .aload_n 0, 1), (65, .iload_n 1, 1), (66, .iload_n 2, 1), (67, .invokevirtual 202, 3), (70, .invokevirtual 259, 3), (73, .iinc 2 1, 3), (76, .goto (-19), 3), (79, .iinc 1 1, 3), (82, .goto (-37), 3), (85, .iconst 0, 1), (86, .istore_n 1, 1), (87, .iload_n 1, 1), (88, .iconst 4, 1), (89, .if_icmp .ge 33, 3), (92, .iconst 0, 1), (93, .istore_n 2, 1), (94, .iload_n 2, 1), (95, .bipush 8, 2), (97, .if_icmp .gt 19, 3), (100, .aload_n 0, 1), (101, .aload_n 0, 1), (102, .iload_n 1, 1), (103, .iload_n 2, 1), (104, .invokevirtual 205, 3)]
theorem D_X6_digest_0 : zDk cX6_digest T_X6_digest_0 = true := by decide +kernel
def T_X6_digest_1 : zTb := [(107, .invokevirtual 259, 3), (110, .iinc 2 1, 3), (113, .goto (-19), 3), (116, .iinc 1 1, 3), (119, .goto (-32), 3), (122, .iconst 0, 1), (123, .istore_n 1, 1), (124, .iload_n 1, 1), (125, .bipush 64, 2), (127, .if_icmp .ge 33, 3), (130, .iload_n 1, 1), (131, .bipush 8, 2), (133, .idiv, 1), (134, .iload_n 1, 1), (135, .bipush 8, 2), (137, .irem, 1), (138, .if_icmp .ge 16, 3), (141, .aload_n 0, 1), (142, .aload_n 0, 1), (143, .getfield 7, 3), (146, .bipush 62, 2), (148, .iload_n 1, 1), (149, .iadd, 1), (150, .iaload, 1), (151, .invokevirtual 259, 3), (154, .iinc 1 1, 3), (157, .goto (-33), 3), (160, .iconst 0, 1), (161, .istore_n 1, 1), (162, .iload_n 1, 1), (163, .bipush 8, 2), (165, .if_icmp .ge 22, 3), (168, .aload_n 0, 1), (169, .aload_n 0, 1), (170, .getfield 7, 3), (173, .bipush 126, 2), (175, .iload_n 1, 1), (176, .iadd, 1), (177, .iaload, 1), (178, .invokevirtual 259, 3), (181, .iinc 1 1, 3), (184, .goto (-22), 3), (187, .aload_n 0, 1), (188, .aload_n 0, 1), (189, .getfield 39, 3), (192, .invokevirtual 259, 3), (195, .aload_n 0, 1), (196, .getfield 253, 3), (199, .lreturn, 1)]
theorem D_X6_digest_1 : zDk cX6_digest T_X6_digest_1 = true := by decide +kernel
def T_J9_max_7cf53_0 : zTb := [(0, .iload_n 0, 1), (1, .iload_n 1, 1), (2, .if_icmp .lt 7, 3), (5, .iload_n 0, 1), (6, .goto 4, 3), (9, .iload_n 1, 1), (10, .ireturn, 1)]
theorem D_J9_max_7cf53_0 : zDk cJ9_max_7cf53 T_J9_max_7cf53_0 = true := by decide +kernel
def T_J9_min_7cf53_0 : zTb := [(0, .iload_n 0, 1), (1, .iload_n 1, 1), (2, .if_icmp .gt 7, 3), (5, .iload_n 0, 1), (6, .goto 4, 3), (9, .iload_n 1, 1), (10, .ireturn, 1)]
theorem D_J9_min_7cf53_0 : zDk cJ9_min_7cf53 T_J9_min_7cf53_0 = true := by decide +kernel
def T_J7_fill_53178_0 : zTb := [(0, .iconst 0, 1), (1, .istore_n 2, 1), (2, .aload_n 0, 1), (3, .arraylength, 1), (4, .istore_n 3, 1), (5, .iload_n 2, 1), (6, .iload_n 3, 1), (7, .if_icmp .ge 13, 3), (10, .aload_n 0, 1), (11, .iload_n 2, 1), (12, .iload_n 1, 1), (13, .iastore, 1), (14, .iinc 2 1, 3), (17, .goto (-12), 3), (20, .return_, 1)]
theorem D_J7_fill_53178_0 : zDk cJ7_fill_53178 T_J7_fill_53178_0 = true := by decide +kernel
def T_L_begin_0 : zTb := [(0, .aload_n 2, 1), (1, .iconst 0, 1), (2, .aload_n 0, 1), (3, .iload_n 1, 1), (4, .invokevirtual 7, 3), (7, .i2l, 1), (8, .lastore, 1), (9, .goto 6, 3), (12, .astore_n 3, 1), (13, .iconst 1, 1), (14, .ireturn, 1), (15, .iconst 0, 1), (16, .ireturn, 1)]
theorem D_L_begin_0 : zDk cL_begin T_L_begin_0 = true := by decide +kernel
def T_L_setTown_0 : zTb := [(0, .aload_n 3, 1), (1, .iconst 0, 1), (2, .aload_n 0, 1), (3, .iload_n 1, 1), (4, .iload_n 2, 1), (5, .invokevirtual 15, 3), (8, .i2l, 1), (9, .lastore, 1), (10, .goto 11, 3), (13, .astore 4, 2), (15, .iconst 1, 1), (16, .ireturn, 1), (17, .astore 4, 2), (19, .iconst 2, 1), (20, .ireturn, 1), (21, .iconst 0, 1), (22, .ireturn, 1)]
theorem D_L_setTown_0 : zDk cL_setTown T_L_setTown_0 = true := by decide +kernel
def T_L_start_0 : zTb := [(0, .aload 4, 2), (2, .iconst 0, 1), (3, .aload_n 0, 1), (4, .iload_n 1, 1), (5, .iload_n 2, 1), (6, .iload_n 3, 1), (7, .invokevirtual 21, 3), (10, .i2l, 1), (11, .lastore, 1), (12, .goto 15, 3), (15, .astore 5, 2), (17, .iconst 1, 1), (18, .ireturn, 1), (19, .astore 5, 2), (21, .iconst 2, 1), (22, .ireturn, 1), (23, .astore 5, 2), (25, .iconst 3, 1), (26, .ireturn, 1), (27, .iconst 0, 1), (28, .ireturn, 1)]
theorem D_L_start_0 : zDk cL_start T_L_start_0 = true := by decide +kernel
def T_L_buy_0 : zTb := [(0, .aload_n 2, 1), (1, .iconst 0, 1), (2, .aload_n 0, 1), (3, .iload_n 1, 1), (4, .invokevirtual 27, 3), (7, .i2l, 1), (8, .lastore, 1), (9, .goto 9, 3), (12, .astore_n 3, 1), (13, .iconst 1, 1), (14, .ireturn, 1), (15, .astore_n 3, 1), (16, .iconst 2, 1), (17, .ireturn, 1), (18, .iconst 0, 1), (19, .ireturn, 1)]
theorem D_L_buy_0 : zDk cL_buy T_L_buy_0 = true := by decide +kernel
def T_L_sell_0 : zTb := [(0, .aload_n 3, 1), (1, .iconst 0, 1), (2, .aload_n 0, 1), (3, .iload_n 1, 1), (4, .iload_n 2, 1), (5, .invokevirtual 30, 3), (8, .i2l, 1), (9, .lastore, 1), (10, .goto 15, 3), (13, .astore 4, 2), (15, .iconst 1, 1), (16, .ireturn, 1), (17, .astore 4, 2), (19, .iconst 2, 1), (20, .ireturn, 1), (21, .astore 4, 2), (23, .iconst 3, 1), (24, .ireturn, 1), (25, .iconst 0, 1), (26, .ireturn, 1)]
theorem D_L_sell_0 : zDk cL_sell T_L_sell_0 = true := by decide +kernel
def T_L_merge_0 : zTb := [(0, .aload_n 3, 1), (1, .iconst 0, 1), (2, .aload_n 0, 1), (3, .iload_n 1, 1), (4, .iload_n 2, 1), (5, .invokevirtual 33, 3), (8, .i2l, 1), (9, .lastore, 1), (10, .goto 15, 3), (13, .astore 4, 2), (15, .iconst 1, 1), (16, .ireturn, 1), (17, .astore 4, 2), (19, .iconst 2, 1), (20, .ireturn, 1), (21, .astore 4, 2), (23, .iconst 3, 1), (24, .ireturn, 1), (25, .iconst 0, 1), (26, .ireturn, 1)]
theorem D_L_merge_0 : zDk cL_merge T_L_merge_0 = true := by decide +kernel
def T_L_pass_0 : zTb := [(0, .aload_n 1, 1), (1, .iconst 0, 1), (2, .aload_n 0, 1), (3, .invokevirtual 36, 3), (6, .i2l, 1), (7, .lastore, 1), (8, .goto 6, 3), (11, .astore_n 2, 1), (12, .iconst 1, 1), (13, .ireturn, 1), (14, .iconst 0, 1), (15, .ireturn, 1)]
theorem D_L_pass_0 : zDk cL_pass T_L_pass_0 = true := by decide +kernel
def T_L_extend_0 : zTb := [(0, .aload_n 1, 1), (1, .iconst 0, 1), (2, .aload_n 0, 1), (3, .invokevirtual 40, 3), (6, .i2l, 1), (7, .lastore, 1), (8, .goto 6, 3), (11, .astore_n 2, 1), (12, .iconst 1, 1), (13, .ireturn, 1), (14, .iconst 0, 1), (15, .ireturn, 1)]
theorem D_L_extend_0 : zDk cL_extend T_L_extend_0 = true := by decide +kernel
def T_L_operate_0 : zTb := [(0, .aload 4, 2), (2, .iconst 0, 1), (3, .aload_n 0, 1), (4, .iload_n 1, 1), (5, .iload_n 2, 1), (6, .iload_n 3, 1), (7, .invokevirtual 43, 3), (10, .i2l, 1), (11, .lastore, 1), (12, .goto 15, 3), (15, .astore 5, 2), (17, .iconst 1, 1), (18, .ireturn, 1), (19, .astore 5, 2), (21, .iconst 2, 1), (22, .ireturn, 1), (23, .astore 5, 2), (25, .iconst 3, 1), (26, .ireturn, 1), (27, .iconst 0, 1), (28, .ireturn, 1)]
theorem D_L_operate_0 : zDk cL_operate T_L_operate_0 = true := by decide +kernel
def T_L_player_0 : zTb := [(0, .aload_n 3, 1), (1, .iconst 0, 1), (2, .aload_n 0, 1), (3, .iload_n 1, 1), (4, .iload_n 2, 1), (5, .invokevirtual 47, 3), (8, .i2l, 1), (9, .lastore, 1), (10, .goto 11, 3), (13, .astore 4, 2), (15, .iconst 1, 1), (16, .ireturn, 1), (17, .astore 4, 2), (19, .iconst 2, 1), (20, .ireturn, 1), (21, .iconst 0, 1), (22, .ireturn, 1)]
theorem D_L_player_0 : zDk cL_player T_L_player_0 = true := by decide +kernel
def T_L_company_0 : zTb := [(0, .aload_n 3, 1), (1, .iconst 0, 1), (2, .aload_n 0, 1), (3, .iload_n 1, 1), (4, .iload_n 2, 1), (5, .invokevirtual 50, 3), (8, .i2l, 1), (9, .lastore, 1), (10, .goto 11, 3), (13, .astore 4, 2), (15, .iconst 1, 1), (16, .ireturn, 1), (17, .astore 4, 2), (19, .iconst 2, 1), (20, .ireturn, 1), (21, .iconst 0, 1), (22, .ireturn, 1)]
theorem D_L_company_0 : zDk cL_company T_L_company_0 = true := by decide +kernel
def T_L_track_0 : zTb := [(0, .aload_n 3, 1), (1, .iconst 0, 1), (2, .aload_n 0, 1), (3, .iload_n 1, 1), (4, .iload_n 2, 1), (5, .invokevirtual 53, 3), (8, .i2l, 1), (9, .lastore, 1), (10, .goto 7, 3), (13, .astore 4, 2), (15, .iconst 1, 1), (16, .ireturn, 1), (17, .iconst 0, 1), (18, .ireturn, 1)]
theorem D_L_track_0 : zDk cL_track T_L_track_0 = true := by decide +kernel
def T_L_value_0 : zTb := [(0, .aload_n 2, 1), (1, .iconst 0, 1), (2, .aload_n 0, 1), (3, .iload_n 1, 1), (4, .invokevirtual 56, 3), (7, .i2l, 1), (8, .lastore, 1), (9, .goto 6, 3), (12, .astore_n 3, 1), (13, .iconst 1, 1), (14, .ireturn, 1), (15, .iconst 0, 1), (16, .ireturn, 1)]
theorem D_L_value_0 : zDk cL_value T_L_value_0 = true := by decide +kernel
def T_L_town_0 : zTb := [(0, .aload_n 2, 1), (1, .iconst 0, 1), (2, .aload_n 0, 1), (3, .iload_n 1, 1), (4, .invokevirtual 59, 3), (7, .i2l, 1), (8, .lastore, 1), (9, .goto 6, 3), (12, .astore_n 3, 1), (13, .iconst 1, 1), (14, .ireturn, 1), (15, .iconst 0, 1), (16, .ireturn, 1)]
theorem D_L_town_0 : zDk cL_town T_L_town_0 = true := by decide +kernel
def T_L_route_0 : zTb := [(0, .aload_n 3, 1), (1, .iconst 0, 1), (2, .aload_n 0, 1), (3, .iload_n 1, 1), (4, .iload_n 2, 1), (5, .invokevirtual 62, 3), (8, .i2l, 1), (9, .lastore, 1), (10, .goto 7, 3), (13, .astore 4, 2), (15, .iconst 1, 1), (16, .ireturn, 1), (17, .iconst 0, 1), (18, .ireturn, 1)]
theorem D_L_route_0 : zDk cL_route T_L_route_0 = true := by decide +kernel
def T_L_incomeWith_0 : zTb := [(0, .aload 4, 2), (2, .iconst 0, 1), (3, .aload_n 0, 1), (4, .iload_n 1, 1), (5, .iload_n 2, 1), (6, .iload_n 3, 1), (7, .invokevirtual 65, 3), (10, .i2l, 1), (11, .lastore, 1), (12, .goto 11, 3), (15, .astore 5, 2), (17, .iconst 1, 1), (18, .ireturn, 1), (19, .astore 5, 2), (21, .iconst 2, 1), (22, .ireturn, 1), (23, .iconst 0, 1), (24, .ireturn, 1)]
theorem D_L_incomeWith_0 : zDk cL_incomeWith T_L_incomeWith_0 = true := by decide +kernel
def T_L_bestTrack_0 : zTb := [(0, .aload_n 2, 1), (1, .iconst 0, 1), (2, .aload_n 0, 1), (3, .iload_n 1, 1), (4, .invokevirtual 68, 3), (7, .i2l, 1), (8, .lastore, 1), (9, .goto 6, 3), (12, .astore_n 3, 1), (13, .iconst 1, 1), (14, .ireturn, 1), (15, .iconst 0, 1), (16, .ireturn, 1)]
theorem D_L_bestTrack_0 : zDk cL_bestTrack T_L_bestTrack_0 = true := by decide +kernel
def T_L_dividend_0 : zTb := [(0, .aload_n 2, 1), (1, .iconst 0, 1), (2, .aload_n 0, 1), (3, .iload_n 1, 1), (4, .invokevirtual 71, 3), (7, .i2l, 1), (8, .lastore, 1), (9, .goto 6, 3), (12, .astore_n 3, 1), (13, .iconst 1, 1), (14, .ireturn, 1), (15, .iconst 0, 1), (16, .ireturn, 1)]
theorem D_L_dividend_0 : zDk cL_dividend T_L_dividend_0 = true := by decide +kernel
def T_L_append_0 : zTb := [(0, .aload_n 2, 1), (1, .iconst 0, 1), (2, .aload_n 0, 1), (3, .iload_n 1, 1), (4, .invokevirtual 74, 3), (7, .i2l, 1), (8, .lastore, 1), (9, .goto 9, 3), (12, .astore_n 3, 1), (13, .iconst 1, 1), (14, .ireturn, 1), (15, .astore_n 3, 1), (16, .iconst 2, 1), (17, .ireturn, 1), (18, .iconst 0, 1), (19, .ireturn, 1)]
theorem D_L_append_0 : zDk cL_append T_L_append_0 = true := by decide +kernel
def T_L_undo_0 : zTb := [(0, .aload_n 1, 1), (1, .iconst 0, 1), (2, .aload_n 0, 1), (3, .invokevirtual 77, 3), (6, .i2l, 1), (7, .lastore, 1), (8, .goto 6, 3), (11, .astore_n 2, 1), (12, .iconst 1, 1), (13, .ireturn, 1), (14, .iconst 0, 1), (15, .ireturn, 1)]
theorem D_L_undo_0 : zDk cL_undo T_L_undo_0 = true := by decide +kernel
def T_L_law_0 : zTb := [(0, .new 8, 3), (3, .dup, 1), (4, .invokespecial 80, 3), (7, .astore_n 1, 1), (8, .new 81, 3), (11, .dup, 1), (12, .invokespecial 83, 3), (15, .astore_n 2, 1), (16, .iconst 1, 1), (17, .newarray .long, 2), (19, .astore_n 3, 1), (20, .iconst 0, 1), (21, .istore 4, 2), (23, .iload 4, 2), (25, .aload_n 0, 1), (26, .arraylength, 1), (27, .iconst 4, 1), (28, .isub, 1), (29, .if_icmp .gt 1479, 3), (32, .aload_n 0, 1), (33, .iload 4, 2), (35, .iaload, 1), (36, .bipush 31, 2), (38, .iand, 1), (39, .tableswitch 1463 0 24 #[113, 169, 237, 317, 373, 441, 509, 553, 597, 693, 761, 829, 897, 953, 1009, 1077, 1157, 1213, 1269, 1282, 1323, 1379, 1392, 1405, 1449], 113), (152, .aload_n 1, 1), (153, .aload_n 0, 1), (154, .iload 4, 2), (156, .iconst 1, 1), (157, .iadd, 1), (158, .iaload, 1), (159, .aload_n 3, 1), (160, .invokestatic 84, 3), (163, .istore 5, 2), (165, .aload_n 2, 1), (166, .aload_n 0, 1), (167, .iload 4, 2), (169, .iconst 1, 1), (170, .iadd, 1), (171, .iaload, 1), (172, .invokevirtual 89, 3), (175, .istore 6, 2), (177, .aload_n 2, 1), (178, .invokevirtual 90, 3), (181, .iload 5, 2), (183, .if_icmp .eq 5, 3), (186, .iconst 0, 1), (187, .ireturn, 1), (188, .iload 5, 2), (190, .ifCond .ne 15, 3), (193, .aload_n 3, 1), (194, .iconst 0, 1), (195, .laload, 1), (196, .iload 6, 2), (198, .i2l, 1), (199, .lcmp, 1), (200, .ifCond .eq 5, 3), (203, .iconst 0, 1), (204, .ireturn, 1), (205, .goto 1297, 3)]
theorem D_L_law_0 : zDk cL_law T_L_law_0 = true := by decide +kernel
def T_L_law_1 : zTb := [(208, .aload_n 1, 1), (209, .aload_n 0, 1), (210, .iload 4, 2), (212, .iconst 1, 1), (213, .iadd, 1), (214, .iaload, 1), (215, .aload_n 0, 1), (216, .iload 4, 2), (218, .iconst 2, 1), (219, .iadd, 1), (220, .iaload, 1), (221, .aload_n 3, 1), (222, .invokestatic 93, 3), (225, .istore 5, 2), (227, .aload_n 2, 1), (228, .aload_n 0, 1), (229, .iload 4, 2), (231, .iconst 1, 1), (232, .iadd, 1), (233, .iaload, 1), (234, .aload_n 0, 1), (235, .iload 4, 2), (237, .iconst 2, 1), (238, .iadd, 1), (239, .iaload, 1), (240, .invokevirtual 96, 3), (243, .istore 6, 2), (245, .aload_n 2, 1), (246, .invokevirtual 90, 3), (249, .iload 5, 2), (251, .if_icmp .eq 5, 3), (254, .iconst 0, 1), (255, .ireturn, 1), (256, .iload 5, 2), (258, .ifCond .ne 15, 3), (261, .aload_n 3, 1), (262, .iconst 0, 1), (263, .laload, 1), (264, .iload 6, 2), (266, .i2l, 1), (267, .lcmp, 1), (268, .ifCond .eq 5, 3), (271, .iconst 0, 1), (272, .ireturn, 1), (273, .goto 1229, 3), (276, .aload_n 1, 1), (277, .aload_n 0, 1), (278, .iload 4, 2), (280, .iconst 1, 1), (281, .iadd, 1), (282, .iaload, 1), (283, .aload_n 0, 1), (284, .iload 4, 2), (286, .iconst 2, 1), (287, .iadd, 1), (288, .iaload, 1), (289, .aload_n 0, 1), (290, .iload 4, 2), (292, .iconst 3, 1), (293, .iadd, 1)]
theorem D_L_law_1 : zDk cL_law T_L_law_1 = true := by decide +kernel
def T_L_law_2 : zTb := [(294, .iaload, 1), (295, .aload_n 3, 1), (296, .invokestatic 97, 3), (299, .istore 5, 2), (301, .aload_n 2, 1), (302, .aload_n 0, 1), (303, .iload 4, 2), (305, .iconst 1, 1), (306, .iadd, 1), (307, .iaload, 1), (308, .aload_n 0, 1), (309, .iload 4, 2), (311, .iconst 2, 1), (312, .iadd, 1), (313, .iaload, 1), (314, .aload_n 0, 1), (315, .iload 4, 2), (317, .iconst 3, 1), (318, .iadd, 1), (319, .iaload, 1), (320, .invokevirtual 100, 3), (323, .istore 6, 2), (325, .aload_n 2, 1), (326, .invokevirtual 90, 3), (329, .iload 5, 2), (331, .if_icmp .eq 5, 3), (334, .iconst 0, 1), (335, .ireturn, 1), (336, .iload 5, 2), (338, .ifCond .ne 15, 3), (341, .aload_n 3, 1), (342, .iconst 0, 1), (343, .laload, 1), (344, .iload 6, 2), (346, .i2l, 1), (347, .lcmp, 1), (348, .ifCond .eq 5, 3), (351, .iconst 0, 1), (352, .ireturn, 1), (353, .goto 1149, 3), (356, .aload_n 1, 1), (357, .aload_n 0, 1), (358, .iload 4, 2), (360, .iconst 1, 1), (361, .iadd, 1), (362, .iaload, 1), (363, .aload_n 3, 1), (364, .invokestatic 101, 3), (367, .istore 5, 2), (369, .aload_n 2, 1), (370, .aload_n 0, 1), (371, .iload 4, 2), (373, .iconst 1, 1), (374, .iadd, 1), (375, .iaload, 1), (376, .invokevirtual 103, 3), (379, .istore 6, 2), (381, .aload_n 2, 1), (382, .invokevirtual 90, 3), (385, .iload 5, 2)]
theorem D_L_law_2 : zDk cL_law T_L_law_2 = true := by decide +kernel
def T_L_law_3 : zTb := [(387, .if_icmp .eq 5, 3), (390, .iconst 0, 1), (391, .ireturn, 1), (392, .iload 5, 2), (394, .ifCond .ne 15, 3), (397, .aload_n 3, 1), (398, .iconst 0, 1), (399, .laload, 1), (400, .iload 6, 2), (402, .i2l, 1), (403, .lcmp, 1), (404, .ifCond .eq 5, 3), (407, .iconst 0, 1), (408, .ireturn, 1), (409, .goto 1093, 3), (412, .aload_n 1, 1), (413, .aload_n 0, 1), (414, .iload 4, 2), (416, .iconst 1, 1), (417, .iadd, 1), (418, .iaload, 1), (419, .aload_n 0, 1), (420, .iload 4, 2), (422, .iconst 2, 1), (423, .iadd, 1), (424, .iaload, 1), (425, .aload_n 3, 1), (426, .invokestatic 104, 3), (429, .istore 5, 2), (431, .aload_n 2, 1), (432, .aload_n 0, 1), (433, .iload 4, 2), (435, .iconst 1, 1), (436, .iadd, 1), (437, .iaload, 1), (438, .aload_n 0, 1), (439, .iload 4, 2), (441, .iconst 2, 1), (442, .iadd, 1), (443, .iaload, 1), (444, .invokevirtual 106, 3), (447, .istore 6, 2), (449, .aload_n 2, 1), (450, .invokevirtual 90, 3), (453, .iload 5, 2), (455, .if_icmp .eq 5, 3), (458, .iconst 0, 1), (459, .ireturn, 1), (460, .iload 5, 2), (462, .ifCond .ne 15, 3), (465, .aload_n 3, 1), (466, .iconst 0, 1), (467, .laload, 1), (468, .iload 6, 2), (470, .i2l, 1), (471, .lcmp, 1), (472, .ifCond .eq 5, 3), (475, .iconst 0, 1), (476, .ireturn, 1), (477, .goto 1025, 3)]
theorem D_L_law_3 : zDk cL_law T_L_law_3 = true := by decide +kernel
def T_L_law_4 : zTb := [(480, .aload_n 1, 1), (481, .aload_n 0, 1), (482, .iload 4, 2), (484, .iconst 1, 1), (485, .iadd, 1), (486, .iaload, 1), (487, .aload_n 0, 1), (488, .iload 4, 2), (490, .iconst 2, 1), (491, .iadd, 1), (492, .iaload, 1), (493, .aload_n 3, 1), (494, .invokestatic 107, 3), (497, .istore 5, 2), (499, .aload_n 2, 1), (500, .aload_n 0, 1), (501, .iload 4, 2), (503, .iconst 1, 1), (504, .iadd, 1), (505, .iaload, 1), (506, .aload_n 0, 1), (507, .iload 4, 2), (509, .iconst 2, 1), (510, .iadd, 1), (511, .iaload, 1), (512, .invokevirtual 109, 3), (515, .istore 6, 2), (517, .aload_n 2, 1), (518, .invokevirtual 90, 3), (521, .iload 5, 2), (523, .if_icmp .eq 5, 3), (526, .iconst 0, 1), (527, .ireturn, 1), (528, .iload 5, 2), (530, .ifCond .ne 15, 3), (533, .aload_n 3, 1), (534, .iconst 0, 1), (535, .laload, 1), (536, .iload 6, 2), (538, .i2l, 1), (539, .lcmp, 1), (540, .ifCond .eq 5, 3), (543, .iconst 0, 1), (544, .ireturn, 1), (545, .goto 957, 3), (548, .aload_n 1, 1), (549, .aload_n 3, 1), (550, .invokestatic 110, 3), (553, .istore 5, 2), (555, .aload_n 2, 1), (556, .invokevirtual 113, 3), (559, .istore 6, 2), (561, .aload_n 2, 1), (562, .invokevirtual 90, 3), (565, .iload 5, 2), (567, .if_icmp .eq 5, 3), (570, .iconst 0, 1), (571, .ireturn, 1), (572, .iload 5, 2), (574, .ifCond .ne 15, 3)]
theorem D_L_law_4 : zDk cL_law T_L_law_4 = true := by decide +kernel
def T_L_law_5 : zTb := [(577, .aload_n 3, 1), (578, .iconst 0, 1), (579, .laload, 1), (580, .iload 6, 2), (582, .i2l, 1), (583, .lcmp, 1), (584, .ifCond .eq 5, 3), (587, .iconst 0, 1), (588, .ireturn, 1), (589, .goto 913, 3), (592, .aload_n 1, 1), (593, .aload_n 3, 1), (594, .invokestatic 114, 3), (597, .istore 5, 2), (599, .aload_n 2, 1), (600, .invokevirtual 116, 3), (603, .istore 6, 2), (605, .aload_n 2, 1), (606, .invokevirtual 90, 3), (609, .iload 5, 2), (611, .if_icmp .eq 5, 3), (614, .iconst 0, 1), (615, .ireturn, 1), (616, .iload 5, 2), (618, .ifCond .ne 15, 3), (621, .aload_n 3, 1), (622, .iconst 0, 1), (623, .laload, 1), (624, .iload 6, 2), (626, .i2l, 1), (627, .lcmp, 1), (628, .ifCond .eq 5, 3), (631, .iconst 0, 1), (632, .ireturn, 1), (633, .goto 869, 3), (636, .aload_n 1, 1), (637, .aload_n 0, 1), (638, .iload 4, 2), (640, .iconst 1, 1), (641, .iadd, 1), (642, .iaload, 1), (643, .aload_n 0, 1), (644, .iload 4, 2), (646, .iconst 2, 1), (647, .iadd, 1), (648, .iaload, 1), (649, .aload_n 0, 1), (650, .iload 4, 2), (652, .iconst 3, 1), (653, .iadd, 1), (654, .iaload, 1), (655, .ifCond .eq 7, 3), (658, .iconst 1, 1), (659, .goto 4, 3), (662, .iconst 0, 1), (663, .aload_n 3, 1), (664, .invokestatic 117, 3), (667, .istore 5, 2), (669, .aload_n 2, 1), (670, .aload_n 0, 1)]
theorem D_L_law_5 : zDk cL_law T_L_law_5 = true := by decide +kernel
def T_L_law_6 : zTb := [(671, .iload 4, 2), (673, .iconst 1, 1), (674, .iadd, 1), (675, .iaload, 1), (676, .aload_n 0, 1), (677, .iload 4, 2), (679, .iconst 2, 1), (680, .iadd, 1), (681, .iaload, 1), (682, .aload_n 0, 1), (683, .iload 4, 2), (685, .iconst 3, 1), (686, .iadd, 1), (687, .iaload, 1), (688, .ifCond .eq 7, 3), (691, .iconst 1, 1), (692, .goto 4, 3), (695, .iconst 0, 1), (696, .invokevirtual 120, 3), (699, .istore 6, 2), (701, .aload_n 2, 1), (702, .invokevirtual 90, 3), (705, .iload 5, 2), (707, .if_icmp .eq 5, 3), (710, .iconst 0, 1), (711, .ireturn, 1), (712, .iload 5, 2), (714, .ifCond .ne 15, 3), (717, .aload_n 3, 1), (718, .iconst 0, 1), (719, .laload, 1), (720, .iload 6, 2), (722, .i2l, 1), (723, .lcmp, 1), (724, .ifCond .eq 5, 3), (727, .iconst 0, 1), (728, .ireturn, 1), (729, .goto 773, 3), (732, .aload_n 1, 1), (733, .aload_n 0, 1), (734, .iload 4, 2), (736, .iconst 1, 1), (737, .iadd, 1), (738, .iaload, 1), (739, .aload_n 0, 1), (740, .iload 4, 2), (742, .iconst 2, 1), (743, .iadd, 1), (744, .iaload, 1), (745, .aload_n 3, 1), (746, .invokestatic 121, 3), (749, .istore 5, 2), (751, .aload_n 2, 1), (752, .aload_n 0, 1), (753, .iload 4, 2), (755, .iconst 1, 1), (756, .iadd, 1), (757, .iaload, 1), (758, .aload_n 0, 1), (759, .iload 4, 2)]
theorem D_L_law_6 : zDk cL_law T_L_law_6 = true := by decide +kernel
def T_L_law_7 : zTb := [(761, .iconst 2, 1), (762, .iadd, 1), (763, .iaload, 1), (764, .invokevirtual 123, 3), (767, .istore 6, 2), (769, .aload_n 2, 1), (770, .invokevirtual 90, 3), (773, .iload 5, 2), (775, .if_icmp .eq 5, 3), (778, .iconst 0, 1), (779, .ireturn, 1), (780, .iload 5, 2), (782, .ifCond .ne 15, 3), (785, .aload_n 3, 1), (786, .iconst 0, 1), (787, .laload, 1), (788, .iload 6, 2), (790, .i2l, 1), (791, .lcmp, 1), (792, .ifCond .eq 5, 3), (795, .iconst 0, 1), (796, .ireturn, 1), (797, .goto 705, 3), (800, .aload_n 1, 1), (801, .aload_n 0, 1), (802, .iload 4, 2), (804, .iconst 1, 1), (805, .iadd, 1), (806, .iaload, 1), (807, .aload_n 0, 1), (808, .iload 4, 2), (810, .iconst 2, 1), (811, .iadd, 1), (812, .iaload, 1), (813, .aload_n 3, 1), (814, .invokestatic 124, 3), (817, .istore 5, 2), (819, .aload_n 2, 1), (820, .aload_n 0, 1), (821, .iload 4, 2), (823, .iconst 1, 1), (824, .iadd, 1), (825, .iaload, 1), (826, .aload_n 0, 1), (827, .iload 4, 2), (829, .iconst 2, 1), (830, .iadd, 1), (831, .iaload, 1), (832, .invokevirtual 126, 3), (835, .istore 6, 2), (837, .aload_n 2, 1), (838, .invokevirtual 90, 3), (841, .iload 5, 2), (843, .if_icmp .eq 5, 3), (846, .iconst 0, 1), (847, .ireturn, 1), (848, .iload 5, 2), (850, .ifCond .ne 15, 3), (853, .aload_n 3, 1), (854, .iconst 0, 1)]
theorem D_L_law_7 : zDk cL_law T_L_law_7 = true := by decide +kernel
def T_L_law_8 : zTb := [(855, .laload, 1), (856, .iload 6, 2), (858, .i2l, 1), (859, .lcmp, 1), (860, .ifCond .eq 5, 3), (863, .iconst 0, 1), (864, .ireturn, 1), (865, .goto 637, 3), (868, .aload_n 1, 1), (869, .aload_n 0, 1), (870, .iload 4, 2), (872, .iconst 1, 1), (873, .iadd, 1), (874, .iaload, 1), (875, .aload_n 0, 1), (876, .iload 4, 2), (878, .iconst 2, 1), (879, .iadd, 1), (880, .iaload, 1), (881, .aload_n 3, 1), (882, .invokestatic 127, 3), (885, .istore 5, 2), (887, .aload_n 2, 1), (888, .aload_n 0, 1), (889, .iload 4, 2), (891, .iconst 1, 1), (892, .iadd, 1), (893, .iaload, 1), (894, .aload_n 0, 1), (895, .iload 4, 2), (897, .iconst 2, 1), (898, .iadd, 1), (899, .iaload, 1), (900, .invokevirtual 129, 3), (903, .istore 6, 2), (905, .aload_n 2, 1), (906, .invokevirtual 90, 3), (909, .iload 5, 2), (911, .if_icmp .eq 5, 3), (914, .iconst 0, 1), (915, .ireturn, 1), (916, .iload 5, 2), (918, .ifCond .ne 15, 3), (921, .aload_n 3, 1), (922, .iconst 0, 1), (923, .laload, 1), (924, .iload 6, 2), (926, .i2l, 1), (927, .lcmp, 1), (928, .ifCond .eq 5, 3), (931, .iconst 0, 1), (932, .ireturn, 1), (933, .goto 569, 3), (936, .aload_n 1, 1), (937, .aload_n 0, 1), (938, .iload 4, 2), (940, .iconst 1, 1), (941, .iadd, 1), (942, .iaload, 1), (943, .aload_n 3, 1)]
theorem D_L_law_8 : zDk cL_law T_L_law_8 = true := by decide +kernel
def T_L_law_9 : zTb := [(944, .invokestatic 130, 3), (947, .istore 5, 2), (949, .aload_n 2, 1), (950, .aload_n 0, 1), (951, .iload 4, 2), (953, .iconst 1, 1), (954, .iadd, 1), (955, .iaload, 1), (956, .invokevirtual 132, 3), (959, .istore 6, 2), (961, .aload_n 2, 1), (962, .invokevirtual 90, 3), (965, .iload 5, 2), (967, .if_icmp .eq 5, 3), (970, .iconst 0, 1), (971, .ireturn, 1), (972, .iload 5, 2), (974, .ifCond .ne 15, 3), (977, .aload_n 3, 1), (978, .iconst 0, 1), (979, .laload, 1), (980, .iload 6, 2), (982, .i2l, 1), (983, .lcmp, 1), (984, .ifCond .eq 5, 3), (987, .iconst 0, 1), (988, .ireturn, 1), (989, .goto 513, 3), (992, .aload_n 1, 1), (993, .aload_n 0, 1), (994, .iload 4, 2), (996, .iconst 1, 1), (997, .iadd, 1), (998, .iaload, 1), (999, .aload_n 3, 1), (1000, .invokestatic 133, 3), (1003, .istore 5, 2), (1005, .aload_n 2, 1), (1006, .aload_n 0, 1), (1007, .iload 4, 2), (1009, .iconst 1, 1), (1010, .iadd, 1), (1011, .iaload, 1), (1012, .invokevirtual 135, 3), (1015, .istore 6, 2), (1017, .aload_n 2, 1), (1018, .invokevirtual 90, 3), (1021, .iload 5, 2), (1023, .if_icmp .eq 5, 3), (1026, .iconst 0, 1), (1027, .ireturn, 1), (1028, .iload 5, 2), (1030, .ifCond .ne 15, 3), (1033, .aload_n 3, 1), (1034, .iconst 0, 1), (1035, .laload, 1), (1036, .iload 6, 2), (1038, .i2l, 1), (1039, .lcmp, 1), (1040, .ifCond .eq 5, 3)]
theorem D_L_law_9 : zDk cL_law T_L_law_9 = true := by decide +kernel
def T_L_law_10 : zTb := [(1043, .iconst 0, 1), (1044, .ireturn, 1), (1045, .goto 457, 3), (1048, .aload_n 1, 1), (1049, .aload_n 0, 1), (1050, .iload 4, 2), (1052, .iconst 1, 1), (1053, .iadd, 1), (1054, .iaload, 1), (1055, .aload_n 0, 1), (1056, .iload 4, 2), (1058, .iconst 2, 1), (1059, .iadd, 1), (1060, .iaload, 1), (1061, .aload_n 3, 1), (1062, .invokestatic 136, 3), (1065, .istore 5, 2), (1067, .aload_n 2, 1), (1068, .aload_n 0, 1), (1069, .iload 4, 2), (1071, .iconst 1, 1), (1072, .iadd, 1), (1073, .iaload, 1), (1074, .aload_n 0, 1), (1075, .iload 4, 2), (1077, .iconst 2, 1), (1078, .iadd, 1), (1079, .iaload, 1), (1080, .invokevirtual 138, 3), (1083, .istore 6, 2), (1085, .aload_n 2, 1), (1086, .invokevirtual 90, 3), (1089, .iload 5, 2), (1091, .if_icmp .eq 5, 3), (1094, .iconst 0, 1), (1095, .ireturn, 1), (1096, .iload 5, 2), (1098, .ifCond .ne 15, 3), (1101, .aload_n 3, 1), (1102, .iconst 0, 1), (1103, .laload, 1), (1104, .iload 6, 2), (1106, .i2l, 1), (1107, .lcmp, 1), (1108, .ifCond .eq 5, 3), (1111, .iconst 0, 1), (1112, .ireturn, 1), (1113, .goto 389, 3), (1116, .aload_n 1, 1), (1117, .aload_n 0, 1), (1118, .iload 4, 2), (1120, .iconst 1, 1), (1121, .iadd, 1), (1122, .iaload, 1), (1123, .aload_n 0, 1), (1124, .iload 4, 2), (1126, .iconst 2, 1), (1127, .iadd, 1), (1128, .iaload, 1), (1129, .aload_n 0, 1)]
theorem D_L_law_10 : zDk cL_law T_L_law_10 = true := by decide +kernel
def T_L_law_11 : zTb := [(1130, .iload 4, 2), (1132, .iconst 3, 1), (1133, .iadd, 1), (1134, .iaload, 1), (1135, .aload_n 3, 1), (1136, .invokestatic 139, 3), (1139, .istore 5, 2), (1141, .aload_n 2, 1), (1142, .aload_n 0, 1), (1143, .iload 4, 2), (1145, .iconst 1, 1), (1146, .iadd, 1), (1147, .iaload, 1), (1148, .aload_n 0, 1), (1149, .iload 4, 2), (1151, .iconst 2, 1), (1152, .iadd, 1), (1153, .iaload, 1), (1154, .aload_n 0, 1), (1155, .iload 4, 2), (1157, .iconst 3, 1), (1158, .iadd, 1), (1159, .iaload, 1), (1160, .invokevirtual 141, 3), (1163, .istore 6, 2), (1165, .aload_n 2, 1), (1166, .invokevirtual 90, 3), (1169, .iload 5, 2), (1171, .if_icmp .eq 5, 3), (1174, .iconst 0, 1), (1175, .ireturn, 1), (1176, .iload 5, 2), (1178, .ifCond .ne 15, 3), (1181, .aload_n 3, 1), (1182, .iconst 0, 1), (1183, .laload, 1), (1184, .iload 6, 2), (1186, .i2l, 1), (1187, .lcmp, 1), (1188, .ifCond .eq 5, 3), (1191, .iconst 0, 1), (1192, .ireturn, 1), (1193, .goto 309, 3), (1196, .aload_n 1, 1), (1197, .aload_n 0, 1), (1198, .iload 4, 2), (1200, .iconst 1, 1), (1201, .iadd, 1), (1202, .iaload, 1), (1203, .aload_n 3, 1), (1204, .invokestatic 142, 3), (1207, .istore 5, 2), (1209, .aload_n 2, 1), (1210, .aload_n 0, 1), (1211, .iload 4, 2), (1213, .iconst 1, 1), (1214, .iadd, 1), (1215, .iaload, 1), (1216, .invokevirtual 144, 3), (1219, .istore 6, 2)]
theorem D_L_law_11 : zDk cL_law T_L_law_11 = true := by decide +kernel
def T_L_law_12 : zTb := [(1221, .aload_n 2, 1), (1222, .invokevirtual 90, 3), (1225, .iload 5, 2), (1227, .if_icmp .eq 5, 3), (1230, .iconst 0, 1), (1231, .ireturn, 1), (1232, .iload 5, 2), (1234, .ifCond .ne 15, 3), (1237, .aload_n 3, 1), (1238, .iconst 0, 1), (1239, .laload, 1), (1240, .iload 6, 2), (1242, .i2l, 1), (1243, .lcmp, 1), (1244, .ifCond .eq 5, 3), (1247, .iconst 0, 1), (1248, .ireturn, 1), (1249, .goto 253, 3), (1252, .aload_n 1, 1), (1253, .aload_n 0, 1), (1254, .iload 4, 2), (1256, .iconst 1, 1), (1257, .iadd, 1), (1258, .iaload, 1), (1259, .aload_n 3, 1), (1260, .invokestatic 145, 3), (1263, .istore 5, 2), (1265, .aload_n 2, 1), (1266, .aload_n 0, 1), (1267, .iload 4, 2), (1269, .iconst 1, 1), (1270, .iadd, 1), (1271, .iaload, 1), (1272, .invokevirtual 147, 3), (1275, .istore 6, 2), (1277, .aload_n 2, 1), (1278, .invokevirtual 90, 3), (1281, .iload 5, 2), (1283, .if_icmp .eq 5, 3), (1286, .iconst 0, 1), (1287, .ireturn, 1), (1288, .iload 5, 2), (1290, .ifCond .ne 15, 3), (1293, .aload_n 3, 1), (1294, .iconst 0, 1), (1295, .laload, 1), (1296, .iload 6, 2), (1298, .i2l, 1), (1299, .lcmp, 1), (1300, .ifCond .eq 5, 3), (1303, .iconst 0, 1), (1304, .ireturn, 1), (1305, .goto 197, 3), (1308, .aload_n 1, 1), (1309, .invokevirtual 148, 3), (1312, .aload_n 2, 1), (1313, .invokevirtual 151, 3), (1316, .if_icmp .eq 186, 3), (1319, .iconst 0, 1), (1320, .ireturn, 1)]
theorem D_L_law_12 : zDk cL_law T_L_law_12 = true := by decide +kernel
def T_L_law_13 : zTb := [(1321, .aload_n 1, 1), (1322, .invokevirtual 152, 3), (1325, .dstore 5, 2), (1327, .aload_n 2, 1), (1328, .invokevirtual 156, 3), (1331, .dstore 7, 2), (1333, .dload 5, 2), (1335, .dload 7, 2), (1337, .dcmp .l, 1), (1338, .ifCond .eq 21, 3), (1341, .dload 5, 2), (1343, .dload 5, 2), (1345, .dcmp .l, 1), (1346, .ifCond .eq 11, 3), (1349, .dload 7, 2), (1351, .dload 7, 2), (1353, .dcmp .l, 1), (1354, .ifCond .ne 5, 3), (1357, .iconst 0, 1), (1358, .ireturn, 1), (1359, .goto 143, 3), (1362, .aload_n 1, 1), (1363, .aload_n 0, 1), (1364, .iload 4, 2), (1366, .iconst 1, 1), (1367, .iadd, 1), (1368, .iaload, 1), (1369, .aload_n 3, 1), (1370, .invokestatic 157, 3), (1373, .istore 5, 2), (1375, .aload_n 2, 1), (1376, .aload_n 0, 1), (1377, .iload 4, 2), (1379, .iconst 1, 1), (1380, .iadd, 1), (1381, .iaload, 1), (1382, .invokevirtual 159, 3), (1385, .istore 6, 2), (1387, .aload_n 2, 1), (1388, .invokevirtual 90, 3), (1391, .iload 5, 2), (1393, .if_icmp .eq 5, 3), (1396, .iconst 0, 1), (1397, .ireturn, 1), (1398, .iload 5, 2), (1400, .ifCond .ne 15, 3), (1403, .aload_n 3, 1), (1404, .iconst 0, 1), (1405, .laload, 1), (1406, .iload 6, 2), (1408, .i2l, 1), (1409, .lcmp, 1), (1410, .ifCond .eq 5, 3), (1413, .iconst 0, 1), (1414, .ireturn, 1), (1415, .goto 87, 3), (1418, .aload_n 1, 1), (1419, .invokevirtual 160, 3), (1422, .aload_n 2, 1), (1423, .invokevirtual 163, 3)]
theorem D_L_law_13 : zDk cL_law T_L_law_13 = true := by decide +kernel
def T_L_law_14 : zTb := [(1426, .if_icmp .eq 76, 3), (1429, .iconst 0, 1), (1430, .ireturn, 1), (1431, .aload_n 1, 1), (1432, .invokevirtual 164, 3), (1435, .aload_n 2, 1), (1436, .invokevirtual 167, 3), (1439, .if_icmp .eq 63, 3), (1442, .iconst 0, 1), (1443, .ireturn, 1), (1444, .aload_n 1, 1), (1445, .aload_n 3, 1), (1446, .invokestatic 168, 3), (1449, .istore 5, 2), (1451, .aload_n 2, 1), (1452, .invokevirtual 170, 3), (1455, .istore 6, 2), (1457, .aload_n 2, 1), (1458, .invokevirtual 90, 3), (1461, .iload 5, 2), (1463, .if_icmp .eq 5, 3), (1466, .iconst 0, 1), (1467, .ireturn, 1), (1468, .iload 5, 2), (1470, .ifCond .ne 15, 3), (1473, .aload_n 3, 1), (1474, .iconst 0, 1), (1475, .laload, 1), (1476, .iload 6, 2), (1478, .i2l, 1), (1479, .lcmp, 1), (1480, .ifCond .eq 5, 3), (1483, .iconst 0, 1), (1484, .ireturn, 1), (1485, .goto 17, 3), (1488, .aload_n 1, 1), (1489, .invokevirtual 171, 3), (1492, .aload_n 2, 1), (1493, .invokevirtual 175, 3), (1496, .lcmp, 1), (1497, .ifCond .eq 5, 3), (1500, .iconst 0, 1), (1501, .ireturn, 1), (1502, .iinc 4 4, 3), (1505, .goto (-1482), 3), (1508, .iconst 1, 1), (1509, .ireturn, 1)]
theorem D_L_law_14 : zDk cL_law T_L_law_14 = true := by decide +kernel
end
section
/-! the words: those of the tables that stay true by themselves -/
def zWs : List Cond := lw_tbl.filter goodWord
theorem zWs_in : ∀ w ∈ zWs, w ∈ lw_tbl := fun w h => (List.mem_filter.mp h).1
theorem qt_1 : ∀ w ∈ tables_1_1, goodWord w = true → w ∈ zWs := fun _ h g => List.mem_filter.mpr ⟨List.mem_append_right _ (List.mem_append_left _ h), g⟩
theorem qt_2 : ∀ w ∈ tables_1_2, goodWord w = true → w ∈ zWs := fun _ h g => List.mem_filter.mpr ⟨List.mem_append_right _ (List.mem_append_right _ (List.mem_append_left _ h)), g⟩
theorem qt_3 : ∀ w ∈ tables_1_3, goodWord w = true → w ∈ zWs := fun _ h g => List.mem_filter.mpr ⟨List.mem_append_right _ (List.mem_append_right _ (List.mem_append_right _ (List.mem_append_left _ h))), g⟩
theorem qt_4 : ∀ w ∈ tables_1_4, goodWord w = true → w ∈ zWs := fun _ h g => List.mem_filter.mpr ⟨List.mem_append_right _ (List.mem_append_right _ (List.mem_append_right _ (List.mem_append_right _ (List.mem_append_left _ h)))), g⟩
theorem qt_5 : ∀ w ∈ tables_1_5, goodWord w = true → w ∈ zWs := fun _ h g => List.mem_filter.mpr ⟨List.mem_append_right _ (List.mem_append_right _ (List.mem_append_right _ (List.mem_append_right _ (List.mem_append_right _ (h))))), g⟩
theorem qp_1 : ∀ q ∈ lw_privs_1, Cond.selects q.1.cls q.1 q.1 ∈ zWs := fun q h => List.mem_filter.mpr ⟨List.mem_append_left _ (List.mem_map.mpr ⟨q, List.mem_append_left _ h, rfl⟩), rfl⟩
theorem qp_2 : ∀ q ∈ lw_privs_2, Cond.selects q.1.cls q.1 q.1 ∈ zWs := fun q h => List.mem_filter.mpr ⟨List.mem_append_left _ (List.mem_map.mpr ⟨q, List.mem_append_right _ (List.mem_append_left _ h), rfl⟩), rfl⟩
theorem qp_3 : ∀ q ∈ lw_privs_3, Cond.selects q.1.cls q.1 q.1 ∈ zWs := fun q h => List.mem_filter.mpr ⟨List.mem_append_left _ (List.mem_map.mpr ⟨q, List.mem_append_right _ (List.mem_append_right _ (List.mem_append_left _ h)), rfl⟩), rfl⟩
theorem qp_4 : ∀ q ∈ lw_privs_4, Cond.selects q.1.cls q.1 q.1 ∈ zWs := fun q h => List.mem_filter.mpr ⟨List.mem_append_left _ (List.mem_map.mpr ⟨q, List.mem_append_right _ (List.mem_append_right _ (List.mem_append_right _ (List.mem_append_left _ h))), rfl⟩), rfl⟩
theorem qp_5 : ∀ q ∈ lw_privs_5, Cond.selects q.1.cls q.1 q.1 ∈ zWs := fun q h => List.mem_filter.mpr ⟨List.mem_append_left _ (List.mem_map.mpr ⟨q, List.mem_append_right _ (List.mem_append_right _ (List.mem_append_right _ (List.mem_append_right _ (h)))), rfl⟩), rfl⟩
theorem q_0 : Cond.classLink RL 8 RX5 ∈ zWs := qt_1 _ (List.mem_of_getElem? (i := 17) rfl) rfl
theorem q_1 : Cond.instantiable RX5 4 ∈ zWs := qt_1 _ (List.mem_of_getElem? (i := 18) rfl) rfl
theorem q_2 : Cond.initialized RX5 ∈ zWs := qt_1 _ (List.mem_of_getElem? (i := 1) rfl) rfl
theorem q_3 : Cond.classLink RL 81 RX6 ∈ zWs := qt_4 _ (List.mem_of_getElem? (i := 61) rfl) rfl
theorem q_4 : Cond.instantiable RX6 17 ∈ zWs := qt_4 _ (List.mem_of_getElem? (i := 62) rfl) rfl
theorem q_5 : Cond.initialized RX6 ∈ zWs := qt_1 _ (List.mem_of_getElem? (i := 8) rfl) rfl
theorem q_6 : Cond.arrayClass .long ∈ zWs := qt_5 _ (List.mem_of_getElem? (i := 225) rfl) rfl
theorem q_7 : Cond.methodLink RL 80 yX5_init ∈ zWs := qt_1 _ (List.mem_of_getElem? (i := 19) rfl) rfl
theorem q_8 : Cond.instanceMethod yX5_init ∈ zWs := qt_1 _ (List.mem_of_getElem? (i := 20) rfl) rfl
theorem q_9 : Cond.code yX5_init cX5_init 3 none ∈ zWs := qt_1 _ (List.mem_of_getElem? (i := 21) rfl) rfl
theorem q_10 : Cond.methodLink RX5 1 objectInit ∈ zWs := qt_1 _ (List.mem_of_getElem? (i := 22) rfl) rfl
theorem q_11 : Cond.instanceMethod objectInit ∈ zWs := qt_1 _ (List.mem_of_getElem? (i := 23) rfl) rfl
theorem q_12 : Cond.code objectInit ⟨#[0xb1]⟩ 1 none ∈ zWs := qt_1 _ (List.mem_of_getElem? (i := 24) rfl) rfl
theorem q_13 : Cond.classLink RX5 7 RX3 ∈ zWs := qt_1 _ (List.mem_of_getElem? (i := 25) rfl) rfl
theorem q_14 : Cond.instantiable RX3 8 ∈ zWs := qt_1 _ (List.mem_of_getElem? (i := 26) rfl) rfl
theorem q_15 : Cond.initialized RX3 ∈ zWs := qt_1 _ (List.mem_of_getElem? (i := 2) rfl) rfl
theorem q_16 : Cond.classLink RX5 10 RX1 ∈ zWs := qt_1 _ (List.mem_of_getElem? (i := 57) rfl) rfl
theorem q_17 : Cond.instantiable RX1 15 ∈ zWs := qt_1 _ (List.mem_of_getElem? (i := 58) rfl) rfl
theorem q_18 : Cond.initialized RX1 ∈ zWs := qt_1 _ (List.mem_of_getElem? (i := 3) rfl) rfl
theorem q_19 : Cond.fieldLink RX5 15 "StockLines" "game" "LStockLines$Game;" ∈ zWs := qt_1 _ (List.mem_of_getElem? (i := 211) rfl) rfl
theorem q_20 : Cond.fieldLink RX5 21 "StockLines" "saved" "[LStockLines$Game;" ∈ zWs := qt_1 _ (List.mem_of_getElem? (i := 212) rfl) rfl
theorem q_21 : Cond.fieldLink RX5 25 "StockLines" "savedCount" "I" ∈ zWs := qt_1 _ (List.mem_of_getElem? (i := 213) rfl) rfl
theorem q_22 : Cond.classLink RX5 29 RX4 ∈ zWs := qt_1 _ (List.mem_of_getElem? (i := 197) rfl) rfl
theorem q_23 : Cond.instantiable RX4 2 ∈ zWs := qt_1 _ (List.mem_of_getElem? (i := 198) rfl) rfl
theorem q_24 : Cond.initialized RX4 ∈ zWs := qt_1 _ (List.mem_of_getElem? (i := 7) rfl) rfl
theorem q_25 : Cond.fieldLink RX5 32 "StockLines" "script" "LStockLines$Script;" ∈ zWs := qt_1 _ (List.mem_of_getElem? (i := 214) rfl) rfl
theorem q_26 : Cond.instanceMethod yX3_init ∈ zWs := qt_1 _ (List.mem_of_getElem? (i := 28) rfl) rfl
theorem q_27 : Cond.code yX3_init cX3_init 1 none ∈ zWs := qt_1 _ (List.mem_of_getElem? (i := 29) rfl) rfl
theorem q_28 : Cond.methodLink RX3 3 objectInit ∈ zWs := qt_1 _ (List.mem_of_getElem? (i := 30) rfl) rfl
theorem q_29 : Cond.arrayClass .int ∈ zWs := qt_1 _ (List.mem_of_getElem? (i := 56) rfl) rfl
theorem q_30 : Cond.fieldLink RX3 9 "StockLines$RouteSearch" "distance" "[I" ∈ zWs := qt_1 _ (List.mem_of_getElem? (i := 31) rfl) rfl
theorem q_31 : Cond.fieldLink RX3 15 "StockLines$RouteSearch" "row" "[I" ∈ zWs := qt_1 _ (List.mem_of_getElem? (i := 32) rfl) rfl
theorem q_32 : Cond.fieldLink RX3 18 "StockLines$RouteSearch" "best" "[I" ∈ zWs := qt_1 _ (List.mem_of_getElem? (i := 33) rfl) rfl
theorem q_33 : Cond.methodLink RX5 12 yX1_init ∈ zWs := qt_1 _ (List.mem_of_getElem? (i := 59) rfl) rfl
theorem q_34 : Cond.instanceMethod yX1_init ∈ zWs := qt_1 _ (List.mem_of_getElem? (i := 60) rfl) rfl
theorem q_35 : Cond.code yX1_init cX1_init 3 none ∈ zWs := qt_1 _ (List.mem_of_getElem? (i := 61) rfl) rfl
theorem q_36 : Cond.methodLink RX1 3 objectInit ∈ zWs := qt_1 _ (List.mem_of_getElem? (i := 62) rfl) rfl
theorem q_37 : Cond.classLink RX1 9 RX2 ∈ zWs := qt_1 _ (List.mem_of_getElem? (i := 63) rfl) rfl
theorem q_38 : Cond.instantiable RX2 2 ∈ zWs := qt_1 _ (List.mem_of_getElem? (i := 64) rfl) rfl
theorem q_39 : Cond.initialized RX2 ∈ zWs := qt_1 _ (List.mem_of_getElem? (i := 4) rfl) rfl
theorem q_40 : Cond.fieldLink RX1 12 "StockLines$Game" "land" "LStockLines$Land;" ∈ zWs := qt_1 _ (List.mem_of_getElem? (i := 144) rfl) rfl
theorem q_41 : Cond.classLink RX1 18 RX0 ∈ zWs := qt_1 _ (List.mem_of_getElem? (i := 83) rfl) rfl
theorem q_42 : Cond.fieldLink RX1 20 "StockLines$Game" "companies" "[LStockLines$Company;" ∈ zWs := qt_1 _ (List.mem_of_getElem? (i := 146) rfl) rfl
theorem q_43 : Cond.fieldLink RX1 24 "StockLines$Game" "cash" "[I" ∈ zWs := qt_1 _ (List.mem_of_getElem? (i := 148) rfl) rfl
theorem q_44 : Cond.fieldLink RX1 28 "StockLines$Game" "order" "[I" ∈ zWs := qt_1 _ (List.mem_of_getElem? (i := 150) rfl) rfl
theorem q_45 : Cond.fieldLink RX1 31 "StockLines$Game" "search" "LStockLines$RouteSearch;" ∈ zWs := qt_1 _ (List.mem_of_getElem? (i := 143) rfl) rfl
theorem q_46 : Cond.instantiable RX0 8 ∈ zWs := qt_1 _ (List.mem_of_getElem? (i := 85) rfl) rfl
theorem q_47 : Cond.initialized RX0 ∈ zWs := qt_1 _ (List.mem_of_getElem? (i := 5) rfl) rfl
theorem q_48 : Cond.methodLink RX1 11 yX2_init ∈ zWs := qt_1 _ (List.mem_of_getElem? (i := 65) rfl) rfl
theorem q_49 : Cond.instanceMethod yX2_init ∈ zWs := qt_1 _ (List.mem_of_getElem? (i := 66) rfl) rfl
theorem q_50 : Cond.code yX2_init cX2_init 2 none ∈ zWs := qt_1 _ (List.mem_of_getElem? (i := 67) rfl) rfl
theorem q_51 : Cond.methodLink RX2 3 objectInit ∈ zWs := qt_1 _ (List.mem_of_getElem? (i := 68) rfl) rfl
theorem q_52 : Cond.fieldLink RX2 9 "StockLines$Land" "worth" "[I" ∈ zWs := qt_1 _ (List.mem_of_getElem? (i := 71) rfl) rfl
theorem q_53 : Cond.classLink RX2 15 "[[I" ∈ zWs := qt_1 _ (List.mem_of_getElem? (i := 69) rfl) rfl
theorem q_54 : Cond.fieldLink RX2 17 "StockLines$Land" "level" "[[I" ∈ zWs := qt_1 _ (List.mem_of_getElem? (i := 74) rfl) rfl
theorem q_55 : Cond.instanceMethod yX0_init ∈ zWs := qt_1 _ (List.mem_of_getElem? (i := 87) rfl) rfl
theorem q_56 : Cond.code yX0_init cX0_init 1 none ∈ zWs := qt_1 _ (List.mem_of_getElem? (i := 88) rfl) rfl
theorem q_57 : Cond.methodLink RX0 3 objectInit ∈ zWs := qt_1 _ (List.mem_of_getElem? (i := 89) rfl) rfl
theorem q_58 : Cond.fieldLink RX0 9 "StockLines$Company" "held" "[I" ∈ zWs := qt_1 _ (List.mem_of_getElem? (i := 90) rfl) rfl
theorem q_59 : Cond.methodLink RX1 36 yX1_reset ∈ zWs := qt_1 _ (List.mem_of_getElem? (i := 126) rfl) rfl
theorem q_60 : Cond.instanceMethod yX1_reset ∈ zWs := qt_1 _ (List.mem_of_getElem? (i := 127) rfl) rfl
theorem q_61 : Cond.selects RX1 yX1_reset yX1_reset ∈ zWs := qt_1 _ (List.mem_of_getElem? (i := 128) rfl) rfl
theorem q_62 : Cond.code yX1_reset cX1_reset 3 none ∈ zWs := qt_1 _ (List.mem_of_getElem? (i := 129) rfl) rfl
theorem q_63 : Cond.fieldLink RX1 52 "StockLines$Game" "orderLength" "I" ∈ zWs := qt_1 _ (List.mem_of_getElem? (i := 151) rfl) rfl
theorem q_64 : Cond.fieldLink RX1 56 "StockLines$Game" "orderPlace" "I" ∈ zWs := qt_1 _ (List.mem_of_getElem? (i := 152) rfl) rfl
theorem q_65 : Cond.fieldLink RX1 59 "StockLines$Game" "extended" "Z" ∈ zWs := qt_1 _ (List.mem_of_getElem? (i := 153) rfl) rfl
theorem q_66 : Cond.fieldLink RX1 63 "StockLines$Game" "players" "I" ∈ zWs := qt_1 _ (List.mem_of_getElem? (i := 154) rfl) rfl
theorem q_67 : Cond.fieldLink RX1 66 "StockLines$Game" "turn" "I" ∈ zWs := qt_1 _ (List.mem_of_getElem? (i := 156) rfl) rfl
theorem q_68 : Cond.fieldLink RX1 69 "StockLines$Game" "passed" "I" ∈ zWs := qt_1 _ (List.mem_of_getElem? (i := 158) rfl) rfl
theorem q_69 : Cond.fieldLink RX1 72 "StockLines$Game" "operating" "Z" ∈ zWs := qt_1 _ (List.mem_of_getElem? (i := 159) rfl) rfl
theorem q_70 : Cond.fieldLink RX1 75 "StockLines$Game" "phasesOver" "I" ∈ zWs := qt_1 _ (List.mem_of_getElem? (i := 162) rfl) rfl
theorem q_71 : Cond.fieldLink RX1 78 "StockLines$Game" "bank" "I" ∈ zWs := qt_1 _ (List.mem_of_getElem? (i := 163) rfl) rfl
theorem q_72 : Cond.fieldLink RX1 81 "StockLines$Game" "closed" "I" ∈ zWs := qt_1 _ (List.mem_of_getElem? (i := 164) rfl) rfl
theorem q_73 : Cond.methodLink RX1 40 yX2_clearTracks ∈ zWs := qt_1 _ (List.mem_of_getElem? (i := 130) rfl) rfl
theorem q_74 : Cond.instanceMethod yX2_clearTracks ∈ zWs := qt_1 _ (List.mem_of_getElem? (i := 131) rfl) rfl
theorem q_75 : Cond.selects RX2 yX2_clearTracks yX2_clearTracks ∈ zWs := qt_1 _ (List.mem_of_getElem? (i := 132) rfl) rfl
theorem q_76 : Cond.code yX2_clearTracks cX2_clearTracks 2 none ∈ zWs := qt_1 _ (List.mem_of_getElem? (i := 133) rfl) rfl
theorem q_77 : Cond.methodLink RX2 20 yJ7_fill_53178 ∈ zWs := qt_1 _ (List.mem_of_getElem? (i := 134) rfl) rfl
theorem q_78 : Cond.static yJ7_fill_53178 ∈ zWs := qt_1 _ (List.mem_of_getElem? (i := 135) rfl) rfl
theorem q_79 : Cond.initialized RJ7 ∈ zWs := qt_1 _ (List.mem_of_getElem? (i := 6) rfl) rfl
theorem q_80 : Cond.code yJ7_fill_53178 cJ7_fill_53178 4 none ∈ zWs := qt_1 _ (List.mem_of_getElem? (i := 136) rfl) rfl
theorem q_81 : Cond.methodLink RX1 43 yX0_close ∈ zWs := qt_1 _ (List.mem_of_getElem? (i := 137) rfl) rfl
theorem q_82 : Cond.instanceMethod yX0_close ∈ zWs := qt_1 _ (List.mem_of_getElem? (i := 138) rfl) rfl
theorem q_83 : Cond.selects RX0 yX0_close yX0_close ∈ zWs := qt_1 _ (List.mem_of_getElem? (i := 139) rfl) rfl
theorem q_84 : Cond.code yX0_close cX0_close 1 none ∈ zWs := qt_1 _ (List.mem_of_getElem? (i := 140) rfl) rfl
theorem q_85 : Cond.fieldLink RX0 23 "StockLines$Company" "open" "Z" ∈ zWs := qt_1 _ (List.mem_of_getElem? (i := 93) rfl) rfl
theorem q_86 : Cond.fieldLink RX0 27 "StockLines$Company" "home" "I" ∈ zWs := qt_1 _ (List.mem_of_getElem? (i := 96) rfl) rfl
theorem q_87 : Cond.fieldLink RX0 39 "StockLines$Company" "cash" "I" ∈ zWs := qt_1 _ (List.mem_of_getElem? (i := 99) rfl) rfl
theorem q_88 : Cond.fieldLink RX0 15 "StockLines$Company" "step" "I" ∈ zWs := qt_1 _ (List.mem_of_getElem? (i := 101) rfl) rfl
theorem q_89 : Cond.fieldLink RX0 30 "StockLines$Company" "stops" "I" ∈ zWs := qt_1 _ (List.mem_of_getElem? (i := 103) rfl) rfl
theorem q_90 : Cond.fieldLink RX0 42 "StockLines$Company" "president" "I" ∈ zWs := qt_1 _ (List.mem_of_getElem? (i := 105) rfl) rfl
theorem q_91 : Cond.fieldLink RX0 45 "StockLines$Company" "latest" "I" ∈ zWs := qt_1 _ (List.mem_of_getElem? (i := 107) rfl) rfl
theorem q_92 : Cond.methodLink RX0 33 yJ7_fill_53178 ∈ zWs := qt_1 _ (List.mem_of_getElem? (i := 141) rfl) rfl
theorem q_93 : Cond.methodLink RX1 46 yJ7_fill_53178 ∈ zWs := qt_1 _ (List.mem_of_getElem? (i := 142) rfl) rfl
theorem q_94 : Cond.instanceMethod yX4_init ∈ zWs := qt_1 _ (List.mem_of_getElem? (i := 200) rfl) rfl
theorem q_95 : Cond.code yX4_init cX4_init 1 none ∈ zWs := qt_1 _ (List.mem_of_getElem? (i := 201) rfl) rfl
theorem q_96 : Cond.methodLink RX4 3 objectInit ∈ zWs := qt_1 _ (List.mem_of_getElem? (i := 202) rfl) rfl
theorem q_97 : Cond.fieldLink RX4 9 "StockLines$Script" "signs" "[I" ∈ zWs := qt_1 _ (List.mem_of_getElem? (i := 203) rfl) rfl
theorem q_98 : Cond.methodLink RL 83 yX6_init ∈ zWs := qt_4 _ (List.mem_of_getElem? (i := 63) rfl) rfl
theorem q_99 : Cond.instanceMethod yX6_init ∈ zWs := qt_4 _ (List.mem_of_getElem? (i := 64) rfl) rfl
theorem q_100 : Cond.code yX6_init cX6_init 2 none ∈ zWs := qt_4 _ (List.mem_of_getElem? (i := 65) rfl) rfl
theorem q_101 : Cond.methodLink RX6 1 objectInit ∈ zWs := qt_4 _ (List.mem_of_getElem? (i := 66) rfl) rfl
theorem q_102 : Cond.fieldLink RX6 7 "StockLinesModel" "now" "[I" ∈ zWs := qt_4 _ (List.mem_of_getElem? (i := 71) rfl) rfl
theorem q_103 : Cond.fieldLink RX6 13 "StockLinesModel" "past" "[I" ∈ zWs := qt_4 _ (List.mem_of_getElem? (i := 72) rfl) rfl
theorem q_104 : Cond.fieldLink RX6 16 "StockLinesModel" "text" "[I" ∈ zWs := qt_4 _ (List.mem_of_getElem? (i := 74) rfl) rfl
theorem q_105 : Cond.fieldLink RX6 19 "StockLinesModel" "path" "[I" ∈ zWs := qt_4 _ (List.mem_of_getElem? (i := 77) rfl) rfl
theorem q_106 : Cond.fieldLink RX6 22 "StockLinesModel" "sums" "[I" ∈ zWs := qt_4 _ (List.mem_of_getElem? (i := 78) rfl) rfl
theorem q_107 : Cond.fieldLink RX6 25 "StockLinesModel" "taken" "[I" ∈ zWs := qt_4 _ (List.mem_of_getElem? (i := 79) rfl) rfl
theorem q_108 : Cond.fieldLink RX6 28 "StockLinesModel" "best" "[I" ∈ zWs := qt_4 _ (List.mem_of_getElem? (i := 80) rfl) rfl
theorem q_109 : Cond.methodLink RX6 31 yX6_begins ∈ zWs := qt_4 _ (List.mem_of_getElem? (i := 67) rfl) rfl
theorem q_110 : Cond.instanceMethod yX6_begins ∈ zWs := qt_4 _ (List.mem_of_getElem? (i := 69) rfl) rfl
theorem q_111 : Cond.selects RX6 yX6_begins yX6_begins ∈ zWs := qp_2 _ (List.mem_of_getElem? (i := 0) rfl)
theorem q_112 : Cond.code yX6_begins cX6_begins 3 none ∈ zWs := qt_4 _ (List.mem_of_getElem? (i := 70) rfl) rfl
theorem q_113 : Cond.methodLink RL 84 yL_begin ∈ zWs := qt_3 _ (List.mem_of_getElem? (i := 104) rfl) rfl
theorem q_114 : Cond.static yL_begin ∈ zWs := qt_3 _ (List.mem_of_getElem? (i := 105) rfl) rfl
theorem q_115 : Cond.initialized RL ∈ zWs := qt_1 _ (List.mem_of_getElem? (i := 0) rfl) rfl
theorem q_116 : Cond.codeWith yL_begin cL_begin 4 (some .int) [(0, 9, 12, 13)] ∈ zWs := qt_3 _ (List.mem_of_getElem? (i := 106) rfl) rfl
theorem q_117 : Cond.classLink RL 13 "java/lang/IllegalArgumentException" ∈ zWs := qt_3 _ (List.mem_of_getElem? (i := 107) rfl) rfl
theorem q_118 : Cond.methodLink RL 7 yX5_begin ∈ zWs := qt_3 _ (List.mem_of_getElem? (i := 108) rfl) rfl
theorem q_119 : Cond.instanceMethod yX5_begin ∈ zWs := qt_3 _ (List.mem_of_getElem? (i := 109) rfl) rfl
theorem q_120 : Cond.selects RX5 yX5_begin yX5_begin ∈ zWs := qt_3 _ (List.mem_of_getElem? (i := 110) rfl) rfl
theorem q_121 : Cond.code yX5_begin cX5_begin 3 (some .int) ∈ zWs := qt_3 _ (List.mem_of_getElem? (i := 111) rfl) rfl
theorem q_122 : Cond.classLink RX5 36 "java/lang/IllegalArgumentException" ∈ zWs := qt_2 _ (List.mem_of_getElem? (i := 229) rfl) rfl
theorem q_123 : Cond.initialized "java/lang/IllegalArgumentException" ∈ zWs := qt_1 _ (List.mem_of_getElem? (i := 12) rfl) rfl
theorem q_124 : Cond.fieldLink RX5 42 "StockLines$Game" "phasesOver" "I" ∈ zWs := qt_1 _ (List.mem_of_getElem? (i := 161) rfl) rfl
theorem q_125 : Cond.methodLink RX5 39 yX5_saveState ∈ zWs := qt_2 _ (List.mem_of_getElem? (i := 40) rfl) rfl
theorem q_126 : Cond.instanceMethod yX5_saveState ∈ zWs := qt_2 _ (List.mem_of_getElem? (i := 42) rfl) rfl
theorem q_127 : Cond.selects RX5 yX5_saveState yX5_saveState ∈ zWs := qp_1 _ (List.mem_of_getElem? (i := 0) rfl)
theorem q_128 : Cond.code yX5_saveState cX5_saveState 3 none ∈ zWs := qt_2 _ (List.mem_of_getElem? (i := 43) rfl) rfl
theorem q_129 : Cond.methodLink RX5 195 yX1_copyFrom ∈ zWs := qt_2 _ (List.mem_of_getElem? (i := 44) rfl) rfl
theorem q_130 : Cond.instanceMethod yX1_copyFrom ∈ zWs := qt_2 _ (List.mem_of_getElem? (i := 45) rfl) rfl
theorem q_131 : Cond.selects RX1 yX1_copyFrom yX1_copyFrom ∈ zWs := qt_2 _ (List.mem_of_getElem? (i := 46) rfl) rfl
theorem q_132 : Cond.code yX1_copyFrom cX1_copyFrom 3 none ∈ zWs := qt_2 _ (List.mem_of_getElem? (i := 47) rfl) rfl
theorem q_133 : Cond.methodLink RX1 91 arraycopyName ∈ zWs := qt_2 _ (List.mem_of_getElem? (i := 60) rfl) rfl
theorem q_134 : Cond.native arraycopyName ∈ zWs := qt_2 _ (List.mem_of_getElem? (i := 54) rfl) rfl
theorem q_135 : Cond.static arraycopyName ∈ zWs := qt_2 _ (List.mem_of_getElem? (i := 53) rfl) rfl
theorem q_136 : Cond.initialized "java/lang/System" ∈ zWs := qt_1 _ (List.mem_of_getElem? (i := 13) rfl) rfl
theorem q_137 : Cond.methodLink RX1 84 yX2_copyFrom ∈ zWs := qt_2 _ (List.mem_of_getElem? (i := 48) rfl) rfl
theorem q_138 : Cond.instanceMethod yX2_copyFrom ∈ zWs := qt_2 _ (List.mem_of_getElem? (i := 49) rfl) rfl
theorem q_139 : Cond.selects RX2 yX2_copyFrom yX2_copyFrom ∈ zWs := qt_2 _ (List.mem_of_getElem? (i := 50) rfl) rfl
theorem q_140 : Cond.code yX2_copyFrom cX2_copyFrom 3 none ∈ zWs := qt_2 _ (List.mem_of_getElem? (i := 51) rfl) rfl
theorem q_141 : Cond.methodLink RX2 26 arraycopyName ∈ zWs := qt_2 _ (List.mem_of_getElem? (i := 52) rfl) rfl
theorem q_142 : Cond.methodLink RX1 88 yX0_copyFrom ∈ zWs := qt_2 _ (List.mem_of_getElem? (i := 55) rfl) rfl
theorem q_143 : Cond.instanceMethod yX0_copyFrom ∈ zWs := qt_2 _ (List.mem_of_getElem? (i := 56) rfl) rfl
theorem q_144 : Cond.selects RX0 yX0_copyFrom yX0_copyFrom ∈ zWs := qt_2 _ (List.mem_of_getElem? (i := 57) rfl) rfl
theorem q_145 : Cond.code yX0_copyFrom cX0_copyFrom 2 none ∈ zWs := qt_2 _ (List.mem_of_getElem? (i := 58) rfl) rfl
theorem q_146 : Cond.methodLink RX0 48 arraycopyName ∈ zWs := qt_2 _ (List.mem_of_getElem? (i := 59) rfl) rfl
theorem q_147 : Cond.methodLink RX5 45 yX1_reset ∈ zWs := qt_3 _ (List.mem_of_getElem? (i := 112) rfl) rfl
theorem q_148 : Cond.methodLink RL 89 yX6_begin ∈ zWs := qt_4 _ (List.mem_of_getElem? (i := 135) rfl) rfl
theorem q_149 : Cond.instanceMethod yX6_begin ∈ zWs := qt_4 _ (List.mem_of_getElem? (i := 136) rfl) rfl
theorem q_150 : Cond.selects RX6 yX6_begin yX6_begin ∈ zWs := qt_4 _ (List.mem_of_getElem? (i := 137) rfl) rfl
theorem q_151 : Cond.code yX6_begin cX6_begin 3 (some .int) ∈ zWs := qt_4 _ (List.mem_of_getElem? (i := 138) rfl) rfl
theorem q_152 : Cond.methodLink RX6 46 yX6_in ∈ zWs := qt_4 _ (List.mem_of_getElem? (i := 139) rfl) rfl
theorem q_153 : Cond.static yX6_in ∈ zWs := qt_4 _ (List.mem_of_getElem? (i := 140) rfl) rfl
theorem q_154 : Cond.code yX6_in cX6_in 3 (some .boolean) ∈ zWs := qt_4 _ (List.mem_of_getElem? (i := 141) rfl) rfl
theorem q_155 : Cond.methodLink RX6 42 yX6_refused ∈ zWs := qt_4 _ (List.mem_of_getElem? (i := 131) rfl) rfl
theorem q_156 : Cond.instanceMethod yX6_refused ∈ zWs := qt_4 _ (List.mem_of_getElem? (i := 133) rfl) rfl
theorem q_157 : Cond.selects RX6 yX6_refused yX6_refused ∈ zWs := qp_2 _ (List.mem_of_getElem? (i := 1) rfl)
theorem q_158 : Cond.code yX6_refused cX6_refused 2 (some .boolean) ∈ zWs := qt_4 _ (List.mem_of_getElem? (i := 134) rfl) rfl
theorem q_159 : Cond.fieldLink RX6 35 "StockLinesModel" "refusal" "I" ∈ zWs := qt_4 _ (List.mem_of_getElem? (i := 76) rfl) rfl
theorem q_160 : Cond.methodLink RX6 60 yX6_saves ∈ zWs := qt_4 _ (List.mem_of_getElem? (i := 142) rfl) rfl
theorem q_161 : Cond.instanceMethod yX6_saves ∈ zWs := qt_4 _ (List.mem_of_getElem? (i := 144) rfl) rfl
theorem q_162 : Cond.selects RX6 yX6_saves yX6_saves ∈ zWs := qp_2 _ (List.mem_of_getElem? (i := 2) rfl)
theorem q_163 : Cond.code yX6_saves cX6_saves 2 none ∈ zWs := qt_4 _ (List.mem_of_getElem? (i := 145) rfl) rfl
theorem q_164 : Cond.fieldLink RX6 39 "StockLinesModel" "saved" "I" ∈ zWs := qt_4 _ (List.mem_of_getElem? (i := 73) rfl) rfl
theorem q_165 : Cond.methodLink RL 90 yX6_thrown ∈ zWs := qt_4 _ (List.mem_of_getElem? (i := 123) rfl) rfl
theorem q_166 : Cond.instanceMethod yX6_thrown ∈ zWs := qt_4 _ (List.mem_of_getElem? (i := 124) rfl) rfl
theorem q_167 : Cond.selects RX6 yX6_thrown yX6_thrown ∈ zWs := qt_4 _ (List.mem_of_getElem? (i := 125) rfl) rfl
theorem q_168 : Cond.code yX6_thrown cX6_thrown 1 (some .int) ∈ zWs := qt_4 _ (List.mem_of_getElem? (i := 126) rfl) rfl
theorem q_169 : Cond.methodLink RL 93 yL_setTown ∈ zWs := qt_3 _ (List.mem_of_getElem? (i := 113) rfl) rfl
theorem q_170 : Cond.static yL_setTown ∈ zWs := qt_3 _ (List.mem_of_getElem? (i := 114) rfl) rfl
theorem q_171 : Cond.codeWith yL_setTown cL_setTown 5 (some .int) [(0, 10, 13, 19), (0, 10, 17, 13)] ∈ zWs := qt_3 _ (List.mem_of_getElem? (i := 115) rfl) rfl
theorem q_172 : Cond.classLink RL 19 "java/lang/IndexOutOfBoundsException" ∈ zWs := qt_3 _ (List.mem_of_getElem? (i := 116) rfl) rfl
theorem q_173 : Cond.methodLink RL 15 yX5_setTown ∈ zWs := qt_3 _ (List.mem_of_getElem? (i := 117) rfl) rfl
theorem q_174 : Cond.instanceMethod yX5_setTown ∈ zWs := qt_3 _ (List.mem_of_getElem? (i := 118) rfl) rfl
theorem q_175 : Cond.selects RX5 yX5_setTown yX5_setTown ∈ zWs := qt_3 _ (List.mem_of_getElem? (i := 119) rfl) rfl
theorem q_176 : Cond.code yX5_setTown cX5_setTown 4 (some .int) ∈ zWs := qt_3 _ (List.mem_of_getElem? (i := 120) rfl) rfl
theorem q_177 : Cond.classLink RX5 53 "java/lang/IndexOutOfBoundsException" ∈ zWs := qt_3 _ (List.mem_of_getElem? (i := 65) rfl) rfl
theorem q_178 : Cond.initialized "java/lang/IndexOutOfBoundsException" ∈ zWs := qt_1 _ (List.mem_of_getElem? (i := 14) rfl) rfl
theorem q_179 : Cond.fieldLink RX5 56 "StockLines$Game" "land" "LStockLines$Land;" ∈ zWs := qt_1 _ (List.mem_of_getElem? (i := 145) rfl) rfl
theorem q_180 : Cond.fieldLink RX5 60 "StockLines$Land" "worth" "[I" ∈ zWs := qt_1 _ (List.mem_of_getElem? (i := 72) rfl) rfl
theorem q_181 : Cond.methodLink RX5 49 yX5_isTown ∈ zWs := qt_3 _ (List.mem_of_getElem? (i := 99) rfl) rfl
theorem q_182 : Cond.static yX5_isTown ∈ zWs := qt_2 _ (List.mem_of_getElem? (i := 139) rfl) rfl
theorem q_183 : Cond.code yX5_isTown cX5_isTown 1 (some .boolean) ∈ zWs := qt_2 _ (List.mem_of_getElem? (i := 140) rfl) rfl
theorem q_184 : Cond.methodLink RL 96 yX6_setTown ∈ zWs := qt_4 _ (List.mem_of_getElem? (i := 146) rfl) rfl
theorem q_185 : Cond.instanceMethod yX6_setTown ∈ zWs := qt_4 _ (List.mem_of_getElem? (i := 147) rfl) rfl
theorem q_186 : Cond.selects RX6 yX6_setTown yX6_setTown ∈ zWs := qt_4 _ (List.mem_of_getElem? (i := 148) rfl) rfl
theorem q_187 : Cond.code yX6_setTown cX6_setTown 4 (some .int) ∈ zWs := qt_4 _ (List.mem_of_getElem? (i := 149) rfl) rfl
theorem q_188 : Cond.methodLink RX6 63 yX6_isTown ∈ zWs := qt_4 _ (List.mem_of_getElem? (i := 150) rfl) rfl
theorem q_189 : Cond.static yX6_isTown ∈ zWs := qt_4 _ (List.mem_of_getElem? (i := 151) rfl) rfl
theorem q_190 : Cond.code yX6_isTown cX6_isTown 1 (some .boolean) ∈ zWs := qt_4 _ (List.mem_of_getElem? (i := 152) rfl) rfl
theorem q_191 : Cond.methodLink RL 97 yL_start ∈ zWs := qt_3 _ (List.mem_of_getElem? (i := 121) rfl) rfl
theorem q_192 : Cond.static yL_start ∈ zWs := qt_3 _ (List.mem_of_getElem? (i := 122) rfl) rfl
theorem q_193 : Cond.codeWith yL_start cL_start 6 (some .int) [(0, 12, 15, 19), (0, 12, 19, 13), (0, 12, 23, 25)] ∈ zWs := qt_3 _ (List.mem_of_getElem? (i := 123) rfl) rfl
theorem q_194 : Cond.classLink RL 25 "java/lang/IllegalStateException" ∈ zWs := qt_3 _ (List.mem_of_getElem? (i := 124) rfl) rfl
theorem q_195 : Cond.methodLink RL 21 yX5_start ∈ zWs := qt_3 _ (List.mem_of_getElem? (i := 125) rfl) rfl
theorem q_196 : Cond.instanceMethod yX5_start ∈ zWs := qt_3 _ (List.mem_of_getElem? (i := 126) rfl) rfl
theorem q_197 : Cond.selects RX5 yX5_start yX5_start ∈ zWs := qt_3 _ (List.mem_of_getElem? (i := 127) rfl) rfl
theorem q_198 : Cond.code yX5_start cX5_start 4 (some .int) ∈ zWs := qt_3 _ (List.mem_of_getElem? (i := 128) rfl) rfl
theorem q_199 : Cond.classLink RX5 73 "java/lang/IllegalStateException" ∈ zWs := qt_3 _ (List.mem_of_getElem? (i := 133) rfl) rfl
theorem q_200 : Cond.initialized "java/lang/IllegalStateException" ∈ zWs := qt_1 _ (List.mem_of_getElem? (i := 15) rfl) rfl
theorem q_201 : Cond.fieldLink RX5 80 "StockLines$Game" "companies" "[LStockLines$Company;" ∈ zWs := qt_1 _ (List.mem_of_getElem? (i := 147) rfl) rfl
theorem q_202 : Cond.fieldLink RX5 84 "StockLines$Company" "cash" "I" ∈ zWs := qt_1 _ (List.mem_of_getElem? (i := 98) rfl) rfl
theorem q_203 : Cond.methodLink RX5 66 yX5_isCompany ∈ zWs := qt_2 _ (List.mem_of_getElem? (i := 70) rfl) rfl
theorem q_204 : Cond.static yX5_isCompany ∈ zWs := qt_2 _ (List.mem_of_getElem? (i := 71) rfl) rfl
theorem q_205 : Cond.code yX5_isCompany cX5_isCompany 1 (some .boolean) ∈ zWs := qt_2 _ (List.mem_of_getElem? (i := 72) rfl) rfl
theorem q_206 : Cond.methodLink RX5 69 yX1_canStart ∈ zWs := qt_3 _ (List.mem_of_getElem? (i := 129) rfl) rfl
theorem q_207 : Cond.instanceMethod yX1_canStart ∈ zWs := qt_3 _ (List.mem_of_getElem? (i := 130) rfl) rfl
theorem q_208 : Cond.selects RX1 yX1_canStart yX1_canStart ∈ zWs := qt_3 _ (List.mem_of_getElem? (i := 131) rfl) rfl
theorem q_209 : Cond.code yX1_canStart cX1_canStart 3 (some .boolean) ∈ zWs := qt_3 _ (List.mem_of_getElem? (i := 132) rfl) rfl
theorem q_210 : Cond.fieldLink RX1 97 "StockLines$Company" "open" "Z" ∈ zWs := qt_1 _ (List.mem_of_getElem? (i := 94) rfl) rfl
theorem q_211 : Cond.methodLink RX1 100 yX0_priceAt ∈ zWs := qt_2 _ (List.mem_of_getElem? (i := 105) rfl) rfl
theorem q_212 : Cond.static yX0_priceAt ∈ zWs := qt_1 _ (List.mem_of_getElem? (i := 237) rfl) rfl
theorem q_213 : Cond.code yX0_priceAt cX0_priceAt 1 (some .int) ∈ zWs := qt_1 _ (List.mem_of_getElem? (i := 238) rfl) rfl
theorem q_214 : Cond.methodLink RX5 76 yX1_startCompany ∈ zWs := qt_3 _ (List.mem_of_getElem? (i := 148) rfl) rfl
theorem q_215 : Cond.instanceMethod yX1_startCompany ∈ zWs := qt_3 _ (List.mem_of_getElem? (i := 149) rfl) rfl
theorem q_216 : Cond.selects RX1 yX1_startCompany yX1_startCompany ∈ zWs := qt_3 _ (List.mem_of_getElem? (i := 150) rfl) rfl
theorem q_217 : Cond.code yX1_startCompany cX1_startCompany 6 none ∈ zWs := qt_3 _ (List.mem_of_getElem? (i := 151) rfl) rfl
theorem q_218 : Cond.fieldLink RX1 115 "StockLines$Company" "held" "[I" ∈ zWs := qt_1 _ (List.mem_of_getElem? (i := 91) rfl) rfl
theorem q_219 : Cond.fieldLink RX1 121 "StockLines$Company" "cash" "I" ∈ zWs := qt_1 _ (List.mem_of_getElem? (i := 100) rfl) rfl
theorem q_220 : Cond.methodLink RX1 104 yX0_openAt ∈ zWs := qt_3 _ (List.mem_of_getElem? (i := 152) rfl) rfl
theorem q_221 : Cond.instanceMethod yX0_openAt ∈ zWs := qt_3 _ (List.mem_of_getElem? (i := 153) rfl) rfl
theorem q_222 : Cond.selects RX0 yX0_openAt yX0_openAt ∈ zWs := qt_3 _ (List.mem_of_getElem? (i := 154) rfl) rfl
theorem q_223 : Cond.code yX0_openAt cX0_openAt 3 none ∈ zWs := qt_3 _ (List.mem_of_getElem? (i := 155) rfl) rfl
theorem q_224 : Cond.methodLink RX1 108 yX0_price ∈ zWs := qt_1 _ (List.mem_of_getElem? (i := 232) rfl) rfl
theorem q_225 : Cond.instanceMethod yX0_price ∈ zWs := qt_1 _ (List.mem_of_getElem? (i := 233) rfl) rfl
theorem q_226 : Cond.selects RX0 yX0_price yX0_price ∈ zWs := qt_1 _ (List.mem_of_getElem? (i := 234) rfl) rfl
theorem q_227 : Cond.code yX0_price cX0_price 1 (some .int) ∈ zWs := qt_1 _ (List.mem_of_getElem? (i := 235) rfl) rfl
theorem q_228 : Cond.methodLink RX0 19 yX0_priceAt ∈ zWs := qt_1 _ (List.mem_of_getElem? (i := 236) rfl) rfl
theorem q_229 : Cond.methodLink RX1 112 yX1_playerPays ∈ zWs := qt_2 _ (List.mem_of_getElem? (i := 81) rfl) rfl
theorem q_230 : Cond.instanceMethod yX1_playerPays ∈ zWs := qt_2 _ (List.mem_of_getElem? (i := 83) rfl) rfl
theorem q_231 : Cond.selects RX1 yX1_playerPays yX1_playerPays ∈ zWs := qp_1 _ (List.mem_of_getElem? (i := 2) rfl)
theorem q_232 : Cond.code yX1_playerPays cX1_playerPays 3 none ∈ zWs := qt_2 _ (List.mem_of_getElem? (i := 84) rfl) rfl
theorem q_233 : Cond.methodLink RX1 118 yX0_findPresident ∈ zWs := qt_2 _ (List.mem_of_getElem? (i := 85) rfl) rfl
theorem q_234 : Cond.instanceMethod yX0_findPresident ∈ zWs := qt_2 _ (List.mem_of_getElem? (i := 86) rfl) rfl
theorem q_235 : Cond.selects RX0 yX0_findPresident yX0_findPresident ∈ zWs := qt_2 _ (List.mem_of_getElem? (i := 87) rfl) rfl
theorem q_236 : Cond.code yX0_findPresident cX0_findPresident 4 none ∈ zWs := qt_2 _ (List.mem_of_getElem? (i := 88) rfl) rfl
theorem q_237 : Cond.methodLink RX1 123 yX1_endActiveTurn ∈ zWs := qt_2 _ (List.mem_of_getElem? (i := 89) rfl) rfl
theorem q_238 : Cond.instanceMethod yX1_endActiveTurn ∈ zWs := qt_2 _ (List.mem_of_getElem? (i := 91) rfl) rfl
theorem q_239 : Cond.selects RX1 yX1_endActiveTurn yX1_endActiveTurn ∈ zWs := qp_1 _ (List.mem_of_getElem? (i := 3) rfl)
theorem q_240 : Cond.code yX1_endActiveTurn cX1_endActiveTurn 1 none ∈ zWs := qt_2 _ (List.mem_of_getElem? (i := 92) rfl) rfl
theorem q_241 : Cond.methodLink RX1 141 yX1_nextTurn ∈ zWs := qt_2 _ (List.mem_of_getElem? (i := 93) rfl) rfl
theorem q_242 : Cond.instanceMethod yX1_nextTurn ∈ zWs := qt_2 _ (List.mem_of_getElem? (i := 95) rfl) rfl
theorem q_243 : Cond.selects RX1 yX1_nextTurn yX1_nextTurn ∈ zWs := qp_1 _ (List.mem_of_getElem? (i := 4) rfl)
theorem q_244 : Cond.code yX1_nextTurn cX1_nextTurn 1 none ∈ zWs := qt_2 _ (List.mem_of_getElem? (i := 96) rfl) rfl
theorem q_245 : Cond.methodLink RL 100 yX6_start ∈ zWs := qt_4 _ (List.mem_of_getElem? (i := 153) rfl) rfl
theorem q_246 : Cond.instanceMethod yX6_start ∈ zWs := qt_4 _ (List.mem_of_getElem? (i := 154) rfl) rfl
theorem q_247 : Cond.selects RX6 yX6_start yX6_start ∈ zWs := qt_4 _ (List.mem_of_getElem? (i := 155) rfl) rfl
theorem q_248 : Cond.code yX6_start cX6_start 6 (some .int) ∈ zWs := qt_4 _ (List.mem_of_getElem? (i := 156) rfl) rfl
theorem q_249 : Cond.methodLink RX6 69 yX6_isCompany ∈ zWs := qt_4 _ (List.mem_of_getElem? (i := 157) rfl) rfl
theorem q_250 : Cond.static yX6_isCompany ∈ zWs := qt_4 _ (List.mem_of_getElem? (i := 158) rfl) rfl
theorem q_251 : Cond.code yX6_isCompany cX6_isCompany 1 (some .boolean) ∈ zWs := qt_4 _ (List.mem_of_getElem? (i := 159) rfl) rfl
theorem q_252 : Cond.methodLink RX6 72 yX6_isStock ∈ zWs := qt_4 _ (List.mem_of_getElem? (i := 160) rfl) rfl
theorem q_253 : Cond.instanceMethod yX6_isStock ∈ zWs := qt_4 _ (List.mem_of_getElem? (i := 162) rfl) rfl
theorem q_254 : Cond.selects RX6 yX6_isStock yX6_isStock ∈ zWs := qp_2 _ (List.mem_of_getElem? (i := 3) rfl)
theorem q_255 : Cond.code yX6_isStock cX6_isStock 1 (some .boolean) ∈ zWs := qt_4 _ (List.mem_of_getElem? (i := 163) rfl) rfl
theorem q_256 : Cond.methodLink RX6 76 yX6_isOpen ∈ zWs := qt_4 _ (List.mem_of_getElem? (i := 164) rfl) rfl
theorem q_257 : Cond.instanceMethod yX6_isOpen ∈ zWs := qt_4 _ (List.mem_of_getElem? (i := 166) rfl) rfl
theorem q_258 : Cond.selects RX6 yX6_isOpen yX6_isOpen ∈ zWs := qp_2 _ (List.mem_of_getElem? (i := 4) rfl)
theorem q_259 : Cond.code yX6_isOpen cX6_isOpen 2 (some .boolean) ∈ zWs := qt_4 _ (List.mem_of_getElem? (i := 167) rfl) rfl
theorem q_260 : Cond.methodLink RX6 50 yX6_of ∈ zWs := qt_4 _ (List.mem_of_getElem? (i := 168) rfl) rfl
theorem q_261 : Cond.instanceMethod yX6_of ∈ zWs := qt_4 _ (List.mem_of_getElem? (i := 170) rfl) rfl
theorem q_262 : Cond.selects RX6 yX6_of yX6_of ∈ zWs := qp_2 _ (List.mem_of_getElem? (i := 5) rfl)
theorem q_263 : Cond.code yX6_of cX6_of 3 (some .int) ∈ zWs := qt_4 _ (List.mem_of_getElem? (i := 171) rfl) rfl
theorem q_264 : Cond.methodLink RX6 79 yX6_purse ∈ zWs := qt_4 _ (List.mem_of_getElem? (i := 172) rfl) rfl
theorem q_265 : Cond.instanceMethod yX6_purse ∈ zWs := qt_4 _ (List.mem_of_getElem? (i := 174) rfl) rfl
theorem q_266 : Cond.selects RX6 yX6_purse yX6_purse ∈ zWs := qp_2 _ (List.mem_of_getElem? (i := 6) rfl)
theorem q_267 : Cond.code yX6_purse cX6_purse 1 (some .int) ∈ zWs := qt_4 _ (List.mem_of_getElem? (i := 175) rfl) rfl
theorem q_268 : Cond.methodLink RX6 83 yX6_price ∈ zWs := qt_4 _ (List.mem_of_getElem? (i := 176) rfl) rfl
theorem q_269 : Cond.instanceMethod yX6_price ∈ zWs := qt_4 _ (List.mem_of_getElem? (i := 178) rfl) rfl
theorem q_270 : Cond.selects RX6 yX6_price yX6_price ∈ zWs := qp_2 _ (List.mem_of_getElem? (i := 7) rfl)
theorem q_271 : Cond.code yX6_price cX6_price 2 (some .int) ∈ zWs := qt_4 _ (List.mem_of_getElem? (i := 179) rfl) rfl
theorem q_272 : Cond.methodLink RX6 87 yX6_pays ∈ zWs := qt_4 _ (List.mem_of_getElem? (i := 180) rfl) rfl
theorem q_273 : Cond.instanceMethod yX6_pays ∈ zWs := qt_4 _ (List.mem_of_getElem? (i := 182) rfl) rfl
theorem q_274 : Cond.selects RX6 yX6_pays yX6_pays ∈ zWs := qp_2 _ (List.mem_of_getElem? (i := 8) rfl)
theorem q_275 : Cond.code yX6_pays cX6_pays 3 none ∈ zWs := qt_4 _ (List.mem_of_getElem? (i := 183) rfl) rfl
theorem q_276 : Cond.methodLink RX6 91 yX6_holds ∈ zWs := qt_4 _ (List.mem_of_getElem? (i := 184) rfl) rfl
theorem q_277 : Cond.instanceMethod yX6_holds ∈ zWs := qt_4 _ (List.mem_of_getElem? (i := 186) rfl) rfl
theorem q_278 : Cond.selects RX6 yX6_holds yX6_holds ∈ zWs := qp_2 _ (List.mem_of_getElem? (i := 9) rfl)
theorem q_279 : Cond.code yX6_holds cX6_holds 4 none ∈ zWs := qt_4 _ (List.mem_of_getElem? (i := 187) rfl) rfl
theorem q_280 : Cond.methodLink RX6 57 yX6_presides ∈ zWs := qt_4 _ (List.mem_of_getElem? (i := 188) rfl) rfl
theorem q_281 : Cond.instanceMethod yX6_presides ∈ zWs := qt_4 _ (List.mem_of_getElem? (i := 190) rfl) rfl
theorem q_282 : Cond.selects RX6 yX6_presides yX6_presides ∈ zWs := qp_2 _ (List.mem_of_getElem? (i := 10) rfl)
theorem q_283 : Cond.code yX6_presides cX6_presides 5 none ∈ zWs := qt_4 _ (List.mem_of_getElem? (i := 191) rfl) rfl
theorem q_284 : Cond.methodLink RX6 54 yX6_shares ∈ zWs := qt_4 _ (List.mem_of_getElem? (i := 192) rfl) rfl
theorem q_285 : Cond.instanceMethod yX6_shares ∈ zWs := qt_4 _ (List.mem_of_getElem? (i := 194) rfl) rfl
theorem q_286 : Cond.selects RX6 yX6_shares yX6_shares ∈ zWs := qp_2 _ (List.mem_of_getElem? (i := 11) rfl)
theorem q_287 : Cond.code yX6_shares cX6_shares 3 (some .int) ∈ zWs := qt_4 _ (List.mem_of_getElem? (i := 195) rfl) rfl
theorem q_288 : Cond.methodLink RX6 95 yX6_earns ∈ zWs := qt_4 _ (List.mem_of_getElem? (i := 196) rfl) rfl
theorem q_289 : Cond.instanceMethod yX6_earns ∈ zWs := qt_4 _ (List.mem_of_getElem? (i := 198) rfl) rfl
theorem q_290 : Cond.selects RX6 yX6_earns yX6_earns ∈ zWs := qp_2 _ (List.mem_of_getElem? (i := 12) rfl)
theorem q_291 : Cond.code yX6_earns cX6_earns 3 none ∈ zWs := qt_4 _ (List.mem_of_getElem? (i := 199) rfl) rfl
theorem q_292 : Cond.methodLink RX6 98 yX6_ends ∈ zWs := qt_4 _ (List.mem_of_getElem? (i := 200) rfl) rfl
theorem q_293 : Cond.instanceMethod yX6_ends ∈ zWs := qt_4 _ (List.mem_of_getElem? (i := 202) rfl) rfl
theorem q_294 : Cond.selects RX6 yX6_ends yX6_ends ∈ zWs := qp_2 _ (List.mem_of_getElem? (i := 13) rfl)
theorem q_295 : Cond.code yX6_ends cX6_ends 1 none ∈ zWs := qt_4 _ (List.mem_of_getElem? (i := 203) rfl) rfl
theorem q_296 : Cond.methodLink RX6 66 yX6_turns ∈ zWs := qt_4 _ (List.mem_of_getElem? (i := 204) rfl) rfl
theorem q_297 : Cond.instanceMethod yX6_turns ∈ zWs := qt_4 _ (List.mem_of_getElem? (i := 206) rfl) rfl
theorem q_298 : Cond.selects RX6 yX6_turns yX6_turns ∈ zWs := qp_2 _ (List.mem_of_getElem? (i := 14) rfl)
theorem q_299 : Cond.code yX6_turns cX6_turns 1 none ∈ zWs := qt_4 _ (List.mem_of_getElem? (i := 207) rfl) rfl
theorem q_300 : Cond.methodLink RL 101 yL_buy ∈ zWs := qt_3 _ (List.mem_of_getElem? (i := 156) rfl) rfl
theorem q_301 : Cond.static yL_buy ∈ zWs := qt_3 _ (List.mem_of_getElem? (i := 157) rfl) rfl
theorem q_302 : Cond.codeWith yL_buy cL_buy 4 (some .int) [(0, 9, 12, 19), (0, 9, 15, 25)] ∈ zWs := qt_3 _ (List.mem_of_getElem? (i := 158) rfl) rfl
theorem q_303 : Cond.methodLink RL 27 yX5_buy ∈ zWs := qt_3 _ (List.mem_of_getElem? (i := 159) rfl) rfl
theorem q_304 : Cond.instanceMethod yX5_buy ∈ zWs := qt_3 _ (List.mem_of_getElem? (i := 160) rfl) rfl
theorem q_305 : Cond.selects RX5 yX5_buy yX5_buy ∈ zWs := qt_3 _ (List.mem_of_getElem? (i := 161) rfl) rfl
theorem q_306 : Cond.code yX5_buy cX5_buy 2 (some .int) ∈ zWs := qt_3 _ (List.mem_of_getElem? (i := 162) rfl) rfl
theorem q_307 : Cond.methodLink RX5 89 yX1_canBuy ∈ zWs := qt_2 _ (List.mem_of_getElem? (i := 73) rfl) rfl
theorem q_308 : Cond.instanceMethod yX1_canBuy ∈ zWs := qt_2 _ (List.mem_of_getElem? (i := 74) rfl) rfl
theorem q_309 : Cond.selects RX1 yX1_canBuy yX1_canBuy ∈ zWs := qt_2 _ (List.mem_of_getElem? (i := 75) rfl) rfl
theorem q_310 : Cond.code yX1_canBuy cX1_canBuy 3 (some .boolean) ∈ zWs := qt_2 _ (List.mem_of_getElem? (i := 76) rfl) rfl
theorem q_311 : Cond.methodLink RX1 126 yX0_bankShares ∈ zWs := qt_2 _ (List.mem_of_getElem? (i := 11) rfl) rfl
theorem q_312 : Cond.instanceMethod yX0_bankShares ∈ zWs := qt_2 _ (List.mem_of_getElem? (i := 12) rfl) rfl
theorem q_313 : Cond.selects RX0 yX0_bankShares yX0_bankShares ∈ zWs := qt_2 _ (List.mem_of_getElem? (i := 13) rfl) rfl
theorem q_314 : Cond.code yX0_bankShares cX0_bankShares 3 (some .int) ∈ zWs := qt_2 _ (List.mem_of_getElem? (i := 14) rfl) rfl
theorem q_315 : Cond.methodLink RX5 92 yX1_buyShare ∈ zWs := qt_2 _ (List.mem_of_getElem? (i := 77) rfl) rfl
theorem q_316 : Cond.instanceMethod yX1_buyShare ∈ zWs := qt_2 _ (List.mem_of_getElem? (i := 78) rfl) rfl
theorem q_317 : Cond.selects RX1 yX1_buyShare yX1_buyShare ∈ zWs := qt_2 _ (List.mem_of_getElem? (i := 79) rfl) rfl
theorem q_318 : Cond.code yX1_buyShare cX1_buyShare 4 (some .int) ∈ zWs := qt_2 _ (List.mem_of_getElem? (i := 80) rfl) rfl
theorem q_319 : Cond.methodLink RL 103 yX6_buy ∈ zWs := qt_4 _ (List.mem_of_getElem? (i := 208) rfl) rfl
theorem q_320 : Cond.instanceMethod yX6_buy ∈ zWs := qt_4 _ (List.mem_of_getElem? (i := 209) rfl) rfl
theorem q_321 : Cond.selects RX6 yX6_buy yX6_buy ∈ zWs := qt_4 _ (List.mem_of_getElem? (i := 210) rfl) rfl
theorem q_322 : Cond.code yX6_buy cX6_buy 2 (some .int) ∈ zWs := qt_4 _ (List.mem_of_getElem? (i := 211) rfl) rfl
theorem q_323 : Cond.methodLink RX6 104 yX6_canBuy ∈ zWs := qt_4 _ (List.mem_of_getElem? (i := 212) rfl) rfl
theorem q_324 : Cond.instanceMethod yX6_canBuy ∈ zWs := qt_4 _ (List.mem_of_getElem? (i := 214) rfl) rfl
theorem q_325 : Cond.selects RX6 yX6_canBuy yX6_canBuy ∈ zWs := qp_2 _ (List.mem_of_getElem? (i := 15) rfl)
theorem q_326 : Cond.code yX6_canBuy cX6_canBuy 2 (some .boolean) ∈ zWs := qt_4 _ (List.mem_of_getElem? (i := 215) rfl) rfl
theorem q_327 : Cond.methodLink RX6 101 yX6_rest ∈ zWs := qt_4 _ (List.mem_of_getElem? (i := 216) rfl) rfl
theorem q_328 : Cond.instanceMethod yX6_rest ∈ zWs := qt_4 _ (List.mem_of_getElem? (i := 218) rfl) rfl
theorem q_329 : Cond.selects RX6 yX6_rest yX6_rest ∈ zWs := qp_3 _ (List.mem_of_getElem? (i := 0) rfl)
theorem q_330 : Cond.code yX6_rest cX6_rest 4 (some .int) ∈ zWs := qt_4 _ (List.mem_of_getElem? (i := 219) rfl) rfl
theorem q_331 : Cond.methodLink RX6 107 yX6_buys ∈ zWs := qt_4 _ (List.mem_of_getElem? (i := 220) rfl) rfl
theorem q_332 : Cond.instanceMethod yX6_buys ∈ zWs := qt_4 _ (List.mem_of_getElem? (i := 222) rfl) rfl
theorem q_333 : Cond.selects RX6 yX6_buys yX6_buys ∈ zWs := qp_3 _ (List.mem_of_getElem? (i := 1) rfl)
theorem q_334 : Cond.code yX6_buys cX6_buys 3 (some .int) ∈ zWs := qt_4 _ (List.mem_of_getElem? (i := 223) rfl) rfl
theorem q_335 : Cond.methodLink RL 104 yL_sell ∈ zWs := qt_3 _ (List.mem_of_getElem? (i := 163) rfl) rfl
theorem q_336 : Cond.static yL_sell ∈ zWs := qt_3 _ (List.mem_of_getElem? (i := 164) rfl) rfl
theorem q_337 : Cond.codeWith yL_sell cL_sell 5 (some .int) [(0, 10, 13, 19), (0, 10, 17, 13), (0, 10, 21, 25)] ∈ zWs := qt_3 _ (List.mem_of_getElem? (i := 165) rfl) rfl
theorem q_338 : Cond.methodLink RL 30 yX5_sell ∈ zWs := qt_3 _ (List.mem_of_getElem? (i := 166) rfl) rfl
theorem q_339 : Cond.instanceMethod yX5_sell ∈ zWs := qt_3 _ (List.mem_of_getElem? (i := 167) rfl) rfl
theorem q_340 : Cond.selects RX5 yX5_sell yX5_sell ∈ zWs := qt_3 _ (List.mem_of_getElem? (i := 168) rfl) rfl
theorem q_341 : Cond.code yX5_sell cX5_sell 3 (some .int) ∈ zWs := qt_3 _ (List.mem_of_getElem? (i := 169) rfl) rfl
theorem q_342 : Cond.fieldLink RX5 99 "StockLines$Game" "turn" "I" ∈ zWs := qt_1 _ (List.mem_of_getElem? (i := 157) rfl) rfl
theorem q_343 : Cond.fieldLink RX5 105 "StockLines$Game" "cash" "[I" ∈ zWs := qt_1 _ (List.mem_of_getElem? (i := 149) rfl) rfl
theorem q_344 : Cond.methodLink RX5 96 yX1_canSell ∈ zWs := qt_2 _ (List.mem_of_getElem? (i := 97) rfl) rfl
theorem q_345 : Cond.instanceMethod yX1_canSell ∈ zWs := qt_2 _ (List.mem_of_getElem? (i := 98) rfl) rfl
theorem q_346 : Cond.selects RX1 yX1_canSell yX1_canSell ∈ zWs := qt_2 _ (List.mem_of_getElem? (i := 99) rfl) rfl
theorem q_347 : Cond.code yX1_canSell cX1_canSell 4 (some .boolean) ∈ zWs := qt_2 _ (List.mem_of_getElem? (i := 100) rfl) rfl
theorem q_348 : Cond.methodLink RX5 102 yX1_sellShares ∈ zWs := qt_2 _ (List.mem_of_getElem? (i := 101) rfl) rfl
theorem q_349 : Cond.instanceMethod yX1_sellShares ∈ zWs := qt_2 _ (List.mem_of_getElem? (i := 102) rfl) rfl
theorem q_350 : Cond.selects RX1 yX1_sellShares yX1_sellShares ∈ zWs := qt_2 _ (List.mem_of_getElem? (i := 103) rfl) rfl
theorem q_351 : Cond.code yX1_sellShares cX1_sellShares 5 none ∈ zWs := qt_2 _ (List.mem_of_getElem? (i := 104) rfl) rfl
theorem q_352 : Cond.fieldLink RX1 129 "StockLines$Company" "step" "I" ∈ zWs := qt_1 _ (List.mem_of_getElem? (i := 102) rfl) rfl
theorem q_353 : Cond.methodLink RX1 132 yX0_fall ∈ zWs := qt_2 _ (List.mem_of_getElem? (i := 106) rfl) rfl
theorem q_354 : Cond.instanceMethod yX0_fall ∈ zWs := qt_2 _ (List.mem_of_getElem? (i := 107) rfl) rfl
theorem q_355 : Cond.selects RX0 yX0_fall yX0_fall ∈ zWs := qt_2 _ (List.mem_of_getElem? (i := 108) rfl) rfl
theorem q_356 : Cond.code yX0_fall cX0_fall 1 none ∈ zWs := qt_2 _ (List.mem_of_getElem? (i := 109) rfl) rfl
theorem q_357 : Cond.methodLink RL 106 yX6_sell ∈ zWs := qt_4 _ (List.mem_of_getElem? (i := 224) rfl) rfl
theorem q_358 : Cond.instanceMethod yX6_sell ∈ zWs := qt_4 _ (List.mem_of_getElem? (i := 225) rfl) rfl
theorem q_359 : Cond.selects RX6 yX6_sell yX6_sell ∈ zWs := qt_4 _ (List.mem_of_getElem? (i := 226) rfl) rfl
theorem q_360 : Cond.code yX6_sell cX6_sell 3 (some .int) ∈ zWs := qt_4 _ (List.mem_of_getElem? (i := 227) rfl) rfl
theorem q_361 : Cond.methodLink RX6 113 yX6_canSell ∈ zWs := qt_4 _ (List.mem_of_getElem? (i := 228) rfl) rfl
theorem q_362 : Cond.instanceMethod yX6_canSell ∈ zWs := qt_4 _ (List.mem_of_getElem? (i := 230) rfl) rfl
theorem q_363 : Cond.selects RX6 yX6_canSell yX6_canSell ∈ zWs := qp_3 _ (List.mem_of_getElem? (i := 2) rfl)
theorem q_364 : Cond.code yX6_canSell cX6_canSell 3 (some .boolean) ∈ zWs := qt_4 _ (List.mem_of_getElem? (i := 231) rfl) rfl
theorem q_365 : Cond.methodLink RX6 117 yX6_sells ∈ zWs := qt_4 _ (List.mem_of_getElem? (i := 232) rfl) rfl
theorem q_366 : Cond.instanceMethod yX6_sells ∈ zWs := qt_4 _ (List.mem_of_getElem? (i := 234) rfl) rfl
theorem q_367 : Cond.selects RX6 yX6_sells yX6_sells ∈ zWs := qp_3 _ (List.mem_of_getElem? (i := 3) rfl)
theorem q_368 : Cond.code yX6_sells cX6_sells 3 (some .int) ∈ zWs := qt_4 _ (List.mem_of_getElem? (i := 235) rfl) rfl
theorem q_369 : Cond.methodLink RX6 110 yX6_shifts ∈ zWs := qt_4 _ (List.mem_of_getElem? (i := 236) rfl) rfl
theorem q_370 : Cond.instanceMethod yX6_shifts ∈ zWs := qt_4 _ (List.mem_of_getElem? (i := 238) rfl) rfl
theorem q_371 : Cond.selects RX6 yX6_shifts yX6_shifts ∈ zWs := qp_3 _ (List.mem_of_getElem? (i := 4) rfl)
theorem q_372 : Cond.code yX6_shifts cX6_shifts 4 none ∈ zWs := qt_4 _ (List.mem_of_getElem? (i := 239) rfl) rfl
theorem q_373 : Cond.methodLink RL 107 yL_merge ∈ zWs := qt_3 _ (List.mem_of_getElem? (i := 170) rfl) rfl
theorem q_374 : Cond.static yL_merge ∈ zWs := qt_3 _ (List.mem_of_getElem? (i := 171) rfl) rfl
theorem q_375 : Cond.codeWith yL_merge cL_merge 5 (some .int) [(0, 10, 13, 19), (0, 10, 17, 13), (0, 10, 21, 25)] ∈ zWs := qt_3 _ (List.mem_of_getElem? (i := 172) rfl) rfl
theorem q_376 : Cond.methodLink RL 33 yX5_merge ∈ zWs := qt_3 _ (List.mem_of_getElem? (i := 173) rfl) rfl
theorem q_377 : Cond.instanceMethod yX5_merge ∈ zWs := qt_3 _ (List.mem_of_getElem? (i := 174) rfl) rfl
theorem q_378 : Cond.selects RX5 yX5_merge yX5_merge ∈ zWs := qt_3 _ (List.mem_of_getElem? (i := 175) rfl) rfl
theorem q_379 : Cond.code yX5_merge cX5_merge 3 (some .int) ∈ zWs := qt_3 _ (List.mem_of_getElem? (i := 176) rfl) rfl
theorem q_380 : Cond.methodLink RX5 107 yX1_canMerge ∈ zWs := qt_3 _ (List.mem_of_getElem? (i := 177) rfl) rfl
theorem q_381 : Cond.instanceMethod yX1_canMerge ∈ zWs := qt_3 _ (List.mem_of_getElem? (i := 178) rfl) rfl
theorem q_382 : Cond.selects RX1 yX1_canMerge yX1_canMerge ∈ zWs := qt_3 _ (List.mem_of_getElem? (i := 179) rfl) rfl
theorem q_383 : Cond.code yX1_canMerge cX1_canMerge 5 (some .boolean) ∈ zWs := qt_3 _ (List.mem_of_getElem? (i := 180) rfl) rfl
theorem q_384 : Cond.fieldLink RX1 135 "StockLines$Company" "president" "I" ∈ zWs := qt_1 _ (List.mem_of_getElem? (i := 106) rfl) rfl
theorem q_385 : Cond.methodLink RX1 138 yX0_exchangedShares ∈ zWs := qt_3 _ (List.mem_of_getElem? (i := 181) rfl) rfl
theorem q_386 : Cond.instanceMethod yX0_exchangedShares ∈ zWs := qt_3 _ (List.mem_of_getElem? (i := 182) rfl) rfl
theorem q_387 : Cond.selects RX0 yX0_exchangedShares yX0_exchangedShares ∈ zWs := qt_3 _ (List.mem_of_getElem? (i := 183) rfl) rfl
theorem q_388 : Cond.code yX0_exchangedShares cX0_exchangedShares 3 (some .int) ∈ zWs := qt_3 _ (List.mem_of_getElem? (i := 184) rfl) rfl
theorem q_389 : Cond.methodLink RX5 110 yX1_mergeCompanies ∈ zWs := qt_3 _ (List.mem_of_getElem? (i := 185) rfl) rfl
theorem q_390 : Cond.instanceMethod yX1_mergeCompanies ∈ zWs := qt_3 _ (List.mem_of_getElem? (i := 186) rfl) rfl
theorem q_391 : Cond.selects RX1 yX1_mergeCompanies yX1_mergeCompanies ∈ zWs := qt_3 _ (List.mem_of_getElem? (i := 187) rfl) rfl
theorem q_392 : Cond.code yX1_mergeCompanies cX1_mergeCompanies 8 none ∈ zWs := qt_3 _ (List.mem_of_getElem? (i := 188) rfl) rfl
theorem q_393 : Cond.methodLink RL 109 yX6_merge ∈ zWs := qt_5 _ (List.mem_of_getElem? (i := 0) rfl) rfl
theorem q_394 : Cond.instanceMethod yX6_merge ∈ zWs := qt_5 _ (List.mem_of_getElem? (i := 1) rfl) rfl
theorem q_395 : Cond.selects RX6 yX6_merge yX6_merge ∈ zWs := qt_5 _ (List.mem_of_getElem? (i := 2) rfl) rfl
theorem q_396 : Cond.code yX6_merge cX6_merge 5 (some .int) ∈ zWs := qt_5 _ (List.mem_of_getElem? (i := 3) rfl) rfl
theorem q_397 : Cond.methodLink RX6 123 yX6_canMerge ∈ zWs := qt_5 _ (List.mem_of_getElem? (i := 4) rfl) rfl
theorem q_398 : Cond.instanceMethod yX6_canMerge ∈ zWs := qt_5 _ (List.mem_of_getElem? (i := 6) rfl) rfl
theorem q_399 : Cond.selects RX6 yX6_canMerge yX6_canMerge ∈ zWs := qp_3 _ (List.mem_of_getElem? (i := 5) rfl)
theorem q_400 : Cond.code yX6_canMerge cX6_canMerge 3 (some .boolean) ∈ zWs := qt_5 _ (List.mem_of_getElem? (i := 7) rfl) rfl
theorem q_401 : Cond.methodLink RX6 120 yX6_wanted ∈ zWs := qt_5 _ (List.mem_of_getElem? (i := 8) rfl) rfl
theorem q_402 : Cond.instanceMethod yX6_wanted ∈ zWs := qt_5 _ (List.mem_of_getElem? (i := 10) rfl) rfl
theorem q_403 : Cond.selects RX6 yX6_wanted yX6_wanted ∈ zWs := qp_3 _ (List.mem_of_getElem? (i := 6) rfl)
theorem q_404 : Cond.code yX6_wanted cX6_wanted 4 (some .int) ∈ zWs := qt_5 _ (List.mem_of_getElem? (i := 11) rfl) rfl
theorem q_405 : Cond.methodLink RX6 126 yX6_closes ∈ zWs := qt_5 _ (List.mem_of_getElem? (i := 12) rfl) rfl
theorem q_406 : Cond.instanceMethod yX6_closes ∈ zWs := qt_5 _ (List.mem_of_getElem? (i := 14) rfl) rfl
theorem q_407 : Cond.selects RX6 yX6_closes yX6_closes ∈ zWs := qp_3 _ (List.mem_of_getElem? (i := 7) rfl)
theorem q_408 : Cond.code yX6_closes cX6_closes 3 none ∈ zWs := qt_5 _ (List.mem_of_getElem? (i := 15) rfl) rfl
theorem q_409 : Cond.methodLink RL 110 yL_pass ∈ zWs := qt_3 _ (List.mem_of_getElem? (i := 189) rfl) rfl
theorem q_410 : Cond.static yL_pass ∈ zWs := qt_3 _ (List.mem_of_getElem? (i := 190) rfl) rfl
theorem q_411 : Cond.codeWith yL_pass cL_pass 3 (some .int) [(0, 8, 11, 25)] ∈ zWs := qt_3 _ (List.mem_of_getElem? (i := 191) rfl) rfl
theorem q_412 : Cond.methodLink RL 36 yX5_pass ∈ zWs := qt_3 _ (List.mem_of_getElem? (i := 192) rfl) rfl
theorem q_413 : Cond.instanceMethod yX5_pass ∈ zWs := qt_3 _ (List.mem_of_getElem? (i := 193) rfl) rfl
theorem q_414 : Cond.selects RX5 yX5_pass yX5_pass ∈ zWs := qt_3 _ (List.mem_of_getElem? (i := 194) rfl) rfl
theorem q_415 : Cond.code yX5_pass cX5_pass 1 (some .int) ∈ zWs := qt_3 _ (List.mem_of_getElem? (i := 195) rfl) rfl
theorem q_416 : Cond.fieldLink RX5 114 "StockLines$Game" "operating" "Z" ∈ zWs := qt_1 _ (List.mem_of_getElem? (i := 160) rfl) rfl
theorem q_417 : Cond.methodLink RX5 118 yX1_passTurn ∈ zWs := qt_2 _ (List.mem_of_getElem? (i := 110) rfl) rfl
theorem q_418 : Cond.instanceMethod yX1_passTurn ∈ zWs := qt_2 _ (List.mem_of_getElem? (i := 111) rfl) rfl
theorem q_419 : Cond.selects RX1 yX1_passTurn yX1_passTurn ∈ zWs := qt_2 _ (List.mem_of_getElem? (i := 112) rfl) rfl
theorem q_420 : Cond.code yX1_passTurn cX1_passTurn 1 none ∈ zWs := qt_2 _ (List.mem_of_getElem? (i := 113) rfl) rfl
theorem q_421 : Cond.methodLink RX1 144 yX1_beginOperating ∈ zWs := qt_2 _ (List.mem_of_getElem? (i := 114) rfl) rfl
theorem q_422 : Cond.instanceMethod yX1_beginOperating ∈ zWs := qt_2 _ (List.mem_of_getElem? (i := 116) rfl) rfl
theorem q_423 : Cond.selects RX1 yX1_beginOperating yX1_beginOperating ∈ zWs := qp_1 _ (List.mem_of_getElem? (i := 5) rfl)
theorem q_424 : Cond.code yX1_beginOperating cX1_beginOperating 2 none ∈ zWs := qt_2 _ (List.mem_of_getElem? (i := 117) rfl) rfl
theorem q_425 : Cond.methodLink RX1 147 yX1_putInOrder ∈ zWs := qt_2 _ (List.mem_of_getElem? (i := 118) rfl) rfl
theorem q_426 : Cond.instanceMethod yX1_putInOrder ∈ zWs := qt_2 _ (List.mem_of_getElem? (i := 120) rfl) rfl
theorem q_427 : Cond.selects RX1 yX1_putInOrder yX1_putInOrder ∈ zWs := qp_1 _ (List.mem_of_getElem? (i := 6) rfl)
theorem q_428 : Cond.code yX1_putInOrder cX1_putInOrder 3 none ∈ zWs := qt_2 _ (List.mem_of_getElem? (i := 121) rfl) rfl
theorem q_429 : Cond.methodLink RX1 150 yX1_endOperatingIfOver ∈ zWs := qt_2 _ (List.mem_of_getElem? (i := 122) rfl) rfl
theorem q_430 : Cond.instanceMethod yX1_endOperatingIfOver ∈ zWs := qt_2 _ (List.mem_of_getElem? (i := 124) rfl) rfl
theorem q_431 : Cond.selects RX1 yX1_endOperatingIfOver yX1_endOperatingIfOver ∈ zWs := qp_1 _ (List.mem_of_getElem? (i := 7) rfl)
theorem q_432 : Cond.code yX1_endOperatingIfOver cX1_endOperatingIfOver 1 none ∈ zWs := qt_2 _ (List.mem_of_getElem? (i := 125) rfl) rfl
theorem q_433 : Cond.methodLink RL 113 yX6_pass ∈ zWs := qt_5 _ (List.mem_of_getElem? (i := 16) rfl) rfl
theorem q_434 : Cond.instanceMethod yX6_pass ∈ zWs := qt_5 _ (List.mem_of_getElem? (i := 17) rfl) rfl
theorem q_435 : Cond.selects RX6 yX6_pass yX6_pass ∈ zWs := qt_5 _ (List.mem_of_getElem? (i := 18) rfl) rfl
theorem q_436 : Cond.code yX6_pass cX6_pass 1 (some .int) ∈ zWs := qt_5 _ (List.mem_of_getElem? (i := 19) rfl) rfl
theorem q_437 : Cond.methodLink RX6 138 yX6_passes ∈ zWs := qt_5 _ (List.mem_of_getElem? (i := 20) rfl) rfl
theorem q_438 : Cond.instanceMethod yX6_passes ∈ zWs := qt_5 _ (List.mem_of_getElem? (i := 22) rfl) rfl
theorem q_439 : Cond.selects RX6 yX6_passes yX6_passes ∈ zWs := qp_3 _ (List.mem_of_getElem? (i := 8) rfl)
theorem q_440 : Cond.code yX6_passes cX6_passes 1 (some .int) ∈ zWs := qt_5 _ (List.mem_of_getElem? (i := 23) rfl) rfl
theorem q_441 : Cond.methodLink RX6 132 yX6_orders ∈ zWs := qt_5 _ (List.mem_of_getElem? (i := 24) rfl) rfl
theorem q_442 : Cond.instanceMethod yX6_orders ∈ zWs := qt_5 _ (List.mem_of_getElem? (i := 26) rfl) rfl
theorem q_443 : Cond.selects RX6 yX6_orders yX6_orders ∈ zWs := qp_3 _ (List.mem_of_getElem? (i := 9) rfl)
theorem q_444 : Cond.code yX6_orders cX6_orders 4 none ∈ zWs := qt_5 _ (List.mem_of_getElem? (i := 27) rfl) rfl
theorem q_445 : Cond.methodLink RX6 129 yX6_isAhead ∈ zWs := qt_5 _ (List.mem_of_getElem? (i := 28) rfl) rfl
theorem q_446 : Cond.instanceMethod yX6_isAhead ∈ zWs := qt_5 _ (List.mem_of_getElem? (i := 30) rfl) rfl
theorem q_447 : Cond.selects RX6 yX6_isAhead yX6_isAhead ∈ zWs := qp_3 _ (List.mem_of_getElem? (i := 10) rfl)
theorem q_448 : Cond.code yX6_isAhead cX6_isAhead 3 (some .boolean) ∈ zWs := qt_5 _ (List.mem_of_getElem? (i := 31) rfl) rfl
theorem q_449 : Cond.methodLink RX6 135 yX6_goesOn ∈ zWs := qt_5 _ (List.mem_of_getElem? (i := 32) rfl) rfl
theorem q_450 : Cond.instanceMethod yX6_goesOn ∈ zWs := qt_5 _ (List.mem_of_getElem? (i := 34) rfl) rfl
theorem q_451 : Cond.selects RX6 yX6_goesOn yX6_goesOn ∈ zWs := qp_3 _ (List.mem_of_getElem? (i := 11) rfl)
theorem q_452 : Cond.code yX6_goesOn cX6_goesOn 1 none ∈ zWs := qt_5 _ (List.mem_of_getElem? (i := 35) rfl) rfl
theorem q_453 : Cond.methodLink RL 114 yL_extend ∈ zWs := qt_3 _ (List.mem_of_getElem? (i := 196) rfl) rfl
theorem q_454 : Cond.static yL_extend ∈ zWs := qt_3 _ (List.mem_of_getElem? (i := 197) rfl) rfl
theorem q_455 : Cond.codeWith yL_extend cL_extend 3 (some .int) [(0, 8, 11, 25)] ∈ zWs := qt_3 _ (List.mem_of_getElem? (i := 198) rfl) rfl
theorem q_456 : Cond.methodLink RL 40 yX5_extend ∈ zWs := qt_3 _ (List.mem_of_getElem? (i := 199) rfl) rfl
theorem q_457 : Cond.instanceMethod yX5_extend ∈ zWs := qt_3 _ (List.mem_of_getElem? (i := 200) rfl) rfl
theorem q_458 : Cond.selects RX5 yX5_extend yX5_extend ∈ zWs := qt_3 _ (List.mem_of_getElem? (i := 201) rfl) rfl
theorem q_459 : Cond.code yX5_extend cX5_extend 1 (some .int) ∈ zWs := qt_3 _ (List.mem_of_getElem? (i := 202) rfl) rfl
theorem q_460 : Cond.methodLink RX5 121 yX1_canExtend ∈ zWs := qt_3 _ (List.mem_of_getElem? (i := 203) rfl) rfl
theorem q_461 : Cond.instanceMethod yX1_canExtend ∈ zWs := qt_3 _ (List.mem_of_getElem? (i := 204) rfl) rfl
theorem q_462 : Cond.selects RX1 yX1_canExtend yX1_canExtend ∈ zWs := qt_3 _ (List.mem_of_getElem? (i := 205) rfl) rfl
theorem q_463 : Cond.code yX1_canExtend cX1_canExtend 3 (some .boolean) ∈ zWs := qt_3 _ (List.mem_of_getElem? (i := 206) rfl) rfl
theorem q_464 : Cond.fieldLink RX1 156 "StockLines$Company" "stops" "I" ∈ zWs := qt_1 _ (List.mem_of_getElem? (i := 104) rfl) rfl
theorem q_465 : Cond.methodLink RX1 153 yX1_nextCompany ∈ zWs := qt_2 _ (List.mem_of_getElem? (i := 130) rfl) rfl
theorem q_466 : Cond.instanceMethod yX1_nextCompany ∈ zWs := qt_2 _ (List.mem_of_getElem? (i := 131) rfl) rfl
theorem q_467 : Cond.selects RX1 yX1_nextCompany yX1_nextCompany ∈ zWs := qt_2 _ (List.mem_of_getElem? (i := 132) rfl) rfl
theorem q_468 : Cond.code yX1_nextCompany cX1_nextCompany 1 (some .int) ∈ zWs := qt_2 _ (List.mem_of_getElem? (i := 133) rfl) rfl
theorem q_469 : Cond.methodLink RX5 125 yX1_extendNext ∈ zWs := qt_3 _ (List.mem_of_getElem? (i := 207) rfl) rfl
theorem q_470 : Cond.instanceMethod yX1_extendNext ∈ zWs := qt_3 _ (List.mem_of_getElem? (i := 208) rfl) rfl
theorem q_471 : Cond.selects RX1 yX1_extendNext yX1_extendNext ∈ zWs := qt_3 _ (List.mem_of_getElem? (i := 209) rfl) rfl
theorem q_472 : Cond.code yX1_extendNext cX1_extendNext 3 (some .int) ∈ zWs := qt_3 _ (List.mem_of_getElem? (i := 210) rfl) rfl
theorem q_473 : Cond.methodLink RX1 159 yX1_companyPays ∈ zWs := qt_2 _ (List.mem_of_getElem? (i := 162) rfl) rfl
theorem q_474 : Cond.instanceMethod yX1_companyPays ∈ zWs := qt_2 _ (List.mem_of_getElem? (i := 164) rfl) rfl
theorem q_475 : Cond.selects RX1 yX1_companyPays yX1_companyPays ∈ zWs := qp_1 _ (List.mem_of_getElem? (i := 9) rfl)
theorem q_476 : Cond.code yX1_companyPays cX1_companyPays 3 none ∈ zWs := qt_2 _ (List.mem_of_getElem? (i := 165) rfl) rfl
theorem q_477 : Cond.methodLink RL 116 yX6_extend ∈ zWs := qt_5 _ (List.mem_of_getElem? (i := 36) rfl) rfl
theorem q_478 : Cond.instanceMethod yX6_extend ∈ zWs := qt_5 _ (List.mem_of_getElem? (i := 37) rfl) rfl
theorem q_479 : Cond.selects RX6 yX6_extend yX6_extend ∈ zWs := qt_5 _ (List.mem_of_getElem? (i := 38) rfl) rfl
theorem q_480 : Cond.code yX6_extend cX6_extend 2 (some .int) ∈ zWs := qt_5 _ (List.mem_of_getElem? (i := 39) rfl) rfl
theorem q_481 : Cond.methodLink RX6 141 yX6_next ∈ zWs := qt_5 _ (List.mem_of_getElem? (i := 40) rfl) rfl
theorem q_482 : Cond.instanceMethod yX6_next ∈ zWs := qt_5 _ (List.mem_of_getElem? (i := 42) rfl) rfl
theorem q_483 : Cond.selects RX6 yX6_next yX6_next ∈ zWs := qp_3 _ (List.mem_of_getElem? (i := 12) rfl)
theorem q_484 : Cond.code yX6_next cX6_next 1 (some .int) ∈ zWs := qt_5 _ (List.mem_of_getElem? (i := 43) rfl) rfl
theorem q_485 : Cond.methodLink RL 117 yL_operate ∈ zWs := qt_3 _ (List.mem_of_getElem? (i := 211) rfl) rfl
theorem q_486 : Cond.static yL_operate ∈ zWs := qt_3 _ (List.mem_of_getElem? (i := 212) rfl) rfl
theorem q_487 : Cond.codeWith yL_operate cL_operate 6 (some .int) [(0, 12, 15, 19), (0, 12, 19, 13), (0, 12, 23, 25)] ∈ zWs := qt_3 _ (List.mem_of_getElem? (i := 213) rfl) rfl
theorem q_488 : Cond.methodLink RL 43 yX5_operate ∈ zWs := qt_3 _ (List.mem_of_getElem? (i := 214) rfl) rfl
theorem q_489 : Cond.instanceMethod yX5_operate ∈ zWs := qt_3 _ (List.mem_of_getElem? (i := 215) rfl) rfl
theorem q_490 : Cond.selects RX5 yX5_operate yX5_operate ∈ zWs := qt_3 _ (List.mem_of_getElem? (i := 216) rfl) rfl
theorem q_491 : Cond.code yX5_operate cX5_operate 5 (some .int) ∈ zWs := qt_3 _ (List.mem_of_getElem? (i := 217) rfl) rfl
theorem q_492 : Cond.methodLink RX5 129 yX1_canOperate ∈ zWs := qt_2 _ (List.mem_of_getElem? (i := 126) rfl) rfl
theorem q_493 : Cond.instanceMethod yX1_canOperate ∈ zWs := qt_2 _ (List.mem_of_getElem? (i := 127) rfl) rfl
theorem q_494 : Cond.selects RX1 yX1_canOperate yX1_canOperate ∈ zWs := qt_2 _ (List.mem_of_getElem? (i := 128) rfl) rfl
theorem q_495 : Cond.code yX1_canOperate cX1_canOperate 5 (some .boolean) ∈ zWs := qt_2 _ (List.mem_of_getElem? (i := 129) rfl) rfl
theorem q_496 : Cond.methodLink RX1 163 yX1_canLay ∈ zWs := qt_2 _ (List.mem_of_getElem? (i := 134) rfl) rfl
theorem q_497 : Cond.instanceMethod yX1_canLay ∈ zWs := qt_2 _ (List.mem_of_getElem? (i := 135) rfl) rfl
theorem q_498 : Cond.selects RX1 yX1_canLay yX1_canLay ∈ zWs := qt_2 _ (List.mem_of_getElem? (i := 136) rfl) rfl
theorem q_499 : Cond.code yX1_canLay cX1_canLay 5 (some .boolean) ∈ zWs := qt_2 _ (List.mem_of_getElem? (i := 137) rfl) rfl
theorem q_500 : Cond.fieldLink RX1 171 "StockLines$Land" "level" "[[I" ∈ zWs := qt_1 _ (List.mem_of_getElem? (i := 77) rfl) rfl
theorem q_501 : Cond.fieldLink RX1 175 "StockLines$Company" "home" "I" ∈ zWs := qt_1 _ (List.mem_of_getElem? (i := 97) rfl) rfl
theorem q_502 : Cond.methodLink RX1 178 yX3_measure ∈ zWs := qt_2 _ (List.mem_of_getElem? (i := 141) rfl) rfl
theorem q_503 : Cond.instanceMethod yX3_measure ∈ zWs := qt_2 _ (List.mem_of_getElem? (i := 142) rfl) rfl
theorem q_504 : Cond.selects RX3 yX3_measure yX3_measure ∈ zWs := qt_2 _ (List.mem_of_getElem? (i := 143) rfl) rfl
theorem q_505 : Cond.code yX3_measure cX3_measure 6 none ∈ zWs := qt_2 _ (List.mem_of_getElem? (i := 144) rfl) rfl
theorem q_506 : Cond.fieldLink RX3 27 "StockLines$Land" "level" "[[I" ∈ zWs := qt_1 _ (List.mem_of_getElem? (i := 75) rfl) rfl
theorem q_507 : Cond.methodLink RX3 21 yJ7_fill_53178 ∈ zWs := qt_2 _ (List.mem_of_getElem? (i := 145) rfl) rfl
theorem q_508 : Cond.methodLink RX3 33 yX3_markNeighbours ∈ zWs := qt_2 _ (List.mem_of_getElem? (i := 146) rfl) rfl
theorem q_509 : Cond.instanceMethod yX3_markNeighbours ∈ zWs := qt_2 _ (List.mem_of_getElem? (i := 148) rfl) rfl
theorem q_510 : Cond.selects RX3 yX3_markNeighbours yX3_markNeighbours ∈ zWs := qp_1 _ (List.mem_of_getElem? (i := 8) rfl)
theorem q_511 : Cond.code yX3_markNeighbours cX3_markNeighbours 5 (some .boolean) ∈ zWs := qt_2 _ (List.mem_of_getElem? (i := 149) rfl) rfl
theorem q_512 : Cond.methodLink RX1 184 yX3_reached ∈ zWs := qt_2 _ (List.mem_of_getElem? (i := 150) rfl) rfl
theorem q_513 : Cond.instanceMethod yX3_reached ∈ zWs := qt_2 _ (List.mem_of_getElem? (i := 151) rfl) rfl
theorem q_514 : Cond.selects RX3 yX3_reached yX3_reached ∈ zWs := qt_2 _ (List.mem_of_getElem? (i := 152) rfl) rfl
theorem q_515 : Cond.code yX3_reached cX3_reached 2 (some .boolean) ∈ zWs := qt_2 _ (List.mem_of_getElem? (i := 153) rfl) rfl
theorem q_516 : Cond.methodLink RX5 132 yX1_operateNext ∈ zWs := qt_2 _ (List.mem_of_getElem? (i := 154) rfl) rfl
theorem q_517 : Cond.instanceMethod yX1_operateNext ∈ zWs := qt_2 _ (List.mem_of_getElem? (i := 155) rfl) rfl
theorem q_518 : Cond.selects RX1 yX1_operateNext yX1_operateNext ∈ zWs := qt_2 _ (List.mem_of_getElem? (i := 156) rfl) rfl
theorem q_519 : Cond.code yX1_operateNext cX1_operateNext 7 (some .int) ∈ zWs := qt_2 _ (List.mem_of_getElem? (i := 157) rfl) rfl
theorem q_520 : Cond.fieldLink RX1 195 "StockLines$Company" "latest" "I" ∈ zWs := qt_1 _ (List.mem_of_getElem? (i := 108) rfl) rfl
theorem q_521 : Cond.methodLink RX1 187 yX2_setLevel ∈ zWs := qt_2 _ (List.mem_of_getElem? (i := 158) rfl) rfl
theorem q_522 : Cond.instanceMethod yX2_setLevel ∈ zWs := qt_2 _ (List.mem_of_getElem? (i := 159) rfl) rfl
theorem q_523 : Cond.selects RX2 yX2_setLevel yX2_setLevel ∈ zWs := qt_2 _ (List.mem_of_getElem? (i := 160) rfl) rfl
theorem q_524 : Cond.code yX2_setLevel cX2_setLevel 4 none ∈ zWs := qt_2 _ (List.mem_of_getElem? (i := 161) rfl) rfl
theorem q_525 : Cond.methodLink RX1 191 yX1_incomeOf ∈ zWs := qt_2 _ (List.mem_of_getElem? (i := 166) rfl) rfl
theorem q_526 : Cond.instanceMethod yX1_incomeOf ∈ zWs := qt_2 _ (List.mem_of_getElem? (i := 167) rfl) rfl
theorem q_527 : Cond.selects RX1 yX1_incomeOf yX1_incomeOf ∈ zWs := qt_2 _ (List.mem_of_getElem? (i := 168) rfl) rfl
theorem q_528 : Cond.code yX1_incomeOf cX1_incomeOf 2 (some .int) ∈ zWs := qt_2 _ (List.mem_of_getElem? (i := 169) rfl) rfl
theorem q_529 : Cond.methodLink RX1 222 yX3_find ∈ zWs := qt_2 _ (List.mem_of_getElem? (i := 170) rfl) rfl
theorem q_530 : Cond.instanceMethod yX3_find ∈ zWs := qt_2 _ (List.mem_of_getElem? (i := 171) rfl) rfl
theorem q_531 : Cond.selects RX3 yX3_find yX3_find ∈ zWs := qt_2 _ (List.mem_of_getElem? (i := 172) rfl) rfl
theorem q_532 : Cond.code yX3_find cX3_find 5 none ∈ zWs := qt_2 _ (List.mem_of_getElem? (i := 173) rfl) rfl
theorem q_533 : Cond.fieldLink RX3 41 "StockLines$RouteSearch" "land" "LStockLines$Land;" ∈ zWs := qt_1 _ (List.mem_of_getElem? (i := 34) rfl) rfl
theorem q_534 : Cond.fieldLink RX3 45 "StockLines$RouteSearch" "homeBit" "I" ∈ zWs := qt_1 _ (List.mem_of_getElem? (i := 35) rfl) rfl
theorem q_535 : Cond.methodLink RX3 49 yJ9_min_7cf53 ∈ zWs := qt_2 _ (List.mem_of_getElem? (i := 175) rfl) rfl
theorem q_536 : Cond.static yJ9_min_7cf53 ∈ zWs := qt_2 _ (List.mem_of_getElem? (i := 176) rfl) rfl
theorem q_537 : Cond.initialized "java/lang/Math" ∈ zWs := qt_1 _ (List.mem_of_getElem? (i := 16) rfl) rfl
theorem q_538 : Cond.code yJ9_min_7cf53 cJ9_min_7cf53 2 (some .int) ∈ zWs := qt_2 _ (List.mem_of_getElem? (i := 177) rfl) rfl
theorem q_539 : Cond.fieldLink RX3 55 "StockLines$RouteSearch" "stops" "I" ∈ zWs := qt_1 _ (List.mem_of_getElem? (i := 36) rfl) rfl
theorem q_540 : Cond.fieldLink RX3 58 "StockLines$RouteSearch" "bestLength" "I" ∈ zWs := qt_1 _ (List.mem_of_getElem? (i := 37) rfl) rfl
theorem q_541 : Cond.fieldLink RX3 61 "StockLines$RouteSearch" "bestIncome" "I" ∈ zWs := qt_1 _ (List.mem_of_getElem? (i := 38) rfl) rfl
theorem q_542 : Cond.methodLink RX3 37 yX3_measure ∈ zWs := qt_2 _ (List.mem_of_getElem? (i := 174) rfl) rfl
theorem q_543 : Cond.methodLink RX3 64 yX3_grow ∈ zWs := qt_2 _ (List.mem_of_getElem? (i := 178) rfl) rfl
theorem q_544 : Cond.static yX3_grow ∈ zWs := qt_2 _ (List.mem_of_getElem? (i := 179) rfl) rfl
theorem q_545 : Cond.code yX3_grow cX3_grow 12 none ∈ zWs := qt_2 _ (List.mem_of_getElem? (i := 180) rfl) rfl
theorem q_546 : Cond.fieldLink RX3 71 "StockLines$Land" "worth" "[I" ∈ zWs := qt_1 _ (List.mem_of_getElem? (i := 73) rfl) rfl
theorem q_547 : Cond.methodLink RX3 74 yX3_keep ∈ zWs := qt_2 _ (List.mem_of_getElem? (i := 181) rfl) rfl
theorem q_548 : Cond.instanceMethod yX3_keep ∈ zWs := qt_2 _ (List.mem_of_getElem? (i := 183) rfl) rfl
theorem q_549 : Cond.selects RX3 yX3_keep yX3_keep ∈ zWs := qp_1 _ (List.mem_of_getElem? (i := 10) rfl)
theorem q_550 : Cond.code yX3_keep cX3_keep 3 none ∈ zWs := qt_2 _ (List.mem_of_getElem? (i := 184) rfl) rfl
theorem q_551 : Cond.methodLink RX3 78 arraycopyName ∈ zWs := qt_2 _ (List.mem_of_getElem? (i := 185) rfl) rfl
theorem q_552 : Cond.methodLink RX1 226 yX3_income ∈ zWs := qt_2 _ (List.mem_of_getElem? (i := 186) rfl) rfl
theorem q_553 : Cond.instanceMethod yX3_income ∈ zWs := qt_2 _ (List.mem_of_getElem? (i := 187) rfl) rfl
theorem q_554 : Cond.selects RX3 yX3_income yX3_income ∈ zWs := qt_2 _ (List.mem_of_getElem? (i := 188) rfl) rfl
theorem q_555 : Cond.code yX3_income cX3_income 1 (some .int) ∈ zWs := qt_2 _ (List.mem_of_getElem? (i := 189) rfl) rfl
theorem q_556 : Cond.methodLink RX3 68 yJ9_max_7cf53 ∈ zWs := qt_2 _ (List.mem_of_getElem? (i := 190) rfl) rfl
theorem q_557 : Cond.static yJ9_max_7cf53 ∈ zWs := qt_2 _ (List.mem_of_getElem? (i := 191) rfl) rfl
theorem q_558 : Cond.code yJ9_max_7cf53 cJ9_max_7cf53 2 (some .int) ∈ zWs := qt_2 _ (List.mem_of_getElem? (i := 192) rfl) rfl
theorem q_559 : Cond.methodLink RX1 198 yX1_payOut ∈ zWs := qt_2 _ (List.mem_of_getElem? (i := 193) rfl) rfl
theorem q_560 : Cond.instanceMethod yX1_payOut ∈ zWs := qt_2 _ (List.mem_of_getElem? (i := 195) rfl) rfl
theorem q_561 : Cond.selects RX1 yX1_payOut yX1_payOut ∈ zWs := qp_1 _ (List.mem_of_getElem? (i := 11) rfl)
theorem q_562 : Cond.code yX1_payOut cX1_payOut 4 none ∈ zWs := qt_2 _ (List.mem_of_getElem? (i := 196) rfl) rfl
theorem q_563 : Cond.methodLink RX1 204 yX0_rise ∈ zWs := qt_2 _ (List.mem_of_getElem? (i := 197) rfl) rfl
theorem q_564 : Cond.instanceMethod yX0_rise ∈ zWs := qt_2 _ (List.mem_of_getElem? (i := 198) rfl) rfl
theorem q_565 : Cond.selects RX0 yX0_rise yX0_rise ∈ zWs := qt_2 _ (List.mem_of_getElem? (i := 199) rfl) rfl
theorem q_566 : Cond.code yX0_rise cX0_rise 1 none ∈ zWs := qt_2 _ (List.mem_of_getElem? (i := 200) rfl) rfl
theorem q_567 : Cond.methodLink RX1 201 yX1_payUpkeep ∈ zWs := qt_2 _ (List.mem_of_getElem? (i := 201) rfl) rfl
theorem q_568 : Cond.instanceMethod yX1_payUpkeep ∈ zWs := qt_2 _ (List.mem_of_getElem? (i := 203) rfl) rfl
theorem q_569 : Cond.selects RX1 yX1_payUpkeep yX1_payUpkeep ∈ zWs := qp_1 _ (List.mem_of_getElem? (i := 12) rfl)
theorem q_570 : Cond.code yX1_payUpkeep cX1_payUpkeep 5 none ∈ zWs := qt_2 _ (List.mem_of_getElem? (i := 204) rfl) rfl
theorem q_571 : Cond.methodLink RX1 207 yJ9_min_7cf53 ∈ zWs := qt_2 _ (List.mem_of_getElem? (i := 205) rfl) rfl
theorem q_572 : Cond.methodLink RX1 213 yX1_payRest ∈ zWs := qt_2 _ (List.mem_of_getElem? (i := 206) rfl) rfl
theorem q_573 : Cond.instanceMethod yX1_payRest ∈ zWs := qt_2 _ (List.mem_of_getElem? (i := 208) rfl) rfl
theorem q_574 : Cond.selects RX1 yX1_payRest yX1_payRest ∈ zWs := qp_1 _ (List.mem_of_getElem? (i := 13) rfl)
theorem q_575 : Cond.code yX1_payRest cX1_payRest 5 (some .int) ∈ zWs := qt_2 _ (List.mem_of_getElem? (i := 209) rfl) rfl
theorem q_576 : Cond.methodLink RX1 216 yX1_cheapestHeld ∈ zWs := qt_2 _ (List.mem_of_getElem? (i := 210) rfl) rfl
theorem q_577 : Cond.instanceMethod yX1_cheapestHeld ∈ zWs := qt_2 _ (List.mem_of_getElem? (i := 212) rfl) rfl
theorem q_578 : Cond.selects RX1 yX1_cheapestHeld yX1_cheapestHeld ∈ zWs := qp_1 _ (List.mem_of_getElem? (i := 14) rfl)
theorem q_579 : Cond.code yX1_cheapestHeld cX1_cheapestHeld 5 (some .int) ∈ zWs := qt_2 _ (List.mem_of_getElem? (i := 213) rfl) rfl
theorem q_580 : Cond.methodLink RX1 219 yX1_sellShares ∈ zWs := qt_2 _ (List.mem_of_getElem? (i := 214) rfl) rfl
theorem q_581 : Cond.methodLink RL 120 yX6_operate ∈ zWs := qt_5 _ (List.mem_of_getElem? (i := 44) rfl) rfl
theorem q_582 : Cond.instanceMethod yX6_operate ∈ zWs := qt_5 _ (List.mem_of_getElem? (i := 45) rfl) rfl
theorem q_583 : Cond.selects RX6 yX6_operate yX6_operate ∈ zWs := qt_5 _ (List.mem_of_getElem? (i := 46) rfl) rfl
theorem q_584 : Cond.code yX6_operate cX6_operate 5 (some .int) ∈ zWs := qt_5 _ (List.mem_of_getElem? (i := 47) rfl) rfl
theorem q_585 : Cond.methodLink RX6 186 yX6_canOperate ∈ zWs := qt_5 _ (List.mem_of_getElem? (i := 48) rfl) rfl
theorem q_586 : Cond.instanceMethod yX6_canOperate ∈ zWs := qt_5 _ (List.mem_of_getElem? (i := 50) rfl) rfl
theorem q_587 : Cond.selects RX6 yX6_canOperate yX6_canOperate ∈ zWs := qp_3 _ (List.mem_of_getElem? (i := 13) rfl)
theorem q_588 : Cond.code yX6_canOperate cX6_canOperate 3 (some .boolean) ∈ zWs := qt_5 _ (List.mem_of_getElem? (i := 51) rfl) rfl
theorem q_589 : Cond.methodLink RX6 174 yX6_canLay ∈ zWs := qt_5 _ (List.mem_of_getElem? (i := 52) rfl) rfl
theorem q_590 : Cond.instanceMethod yX6_canLay ∈ zWs := qt_5 _ (List.mem_of_getElem? (i := 54) rfl) rfl
theorem q_591 : Cond.selects RX6 yX6_canLay yX6_canLay ∈ zWs := qp_3 _ (List.mem_of_getElem? (i := 14) rfl)
theorem q_592 : Cond.code yX6_canLay cX6_canLay 6 (some .boolean) ∈ zWs := qt_5 _ (List.mem_of_getElem? (i := 55) rfl) rfl
theorem q_593 : Cond.methodLink RX6 147 yX6_joined ∈ zWs := qt_5 _ (List.mem_of_getElem? (i := 56) rfl) rfl
theorem q_594 : Cond.instanceMethod yX6_joined ∈ zWs := qt_5 _ (List.mem_of_getElem? (i := 58) rfl) rfl
theorem q_595 : Cond.selects RX6 yX6_joined yX6_joined ∈ zWs := qp_3 _ (List.mem_of_getElem? (i := 15) rfl)
theorem q_596 : Cond.code yX6_joined cX6_joined 5 (some .int) ∈ zWs := qt_5 _ (List.mem_of_getElem? (i := 59) rfl) rfl
theorem q_597 : Cond.methodLink RX6 144 yX6_has ∈ zWs := qt_5 _ (List.mem_of_getElem? (i := 60) rfl) rfl
theorem q_598 : Cond.static yX6_has ∈ zWs := qt_5 _ (List.mem_of_getElem? (i := 61) rfl) rfl
theorem q_599 : Cond.code yX6_has cX6_has 2 (some .boolean) ∈ zWs := qt_5 _ (List.mem_of_getElem? (i := 62) rfl) rfl
theorem q_600 : Cond.methodLink RX6 150 yX6_level ∈ zWs := qt_5 _ (List.mem_of_getElem? (i := 63) rfl) rfl
theorem q_601 : Cond.instanceMethod yX6_level ∈ zWs := qt_5 _ (List.mem_of_getElem? (i := 65) rfl) rfl
theorem q_602 : Cond.selects RX6 yX6_level yX6_level ∈ zWs := qp_4 _ (List.mem_of_getElem? (i := 0) rfl)
theorem q_603 : Cond.code yX6_level cX6_level 3 (some .int) ∈ zWs := qt_5 _ (List.mem_of_getElem? (i := 66) rfl) rfl
theorem q_604 : Cond.methodLink RX6 189 yX6_operates ∈ zWs := qt_5 _ (List.mem_of_getElem? (i := 67) rfl) rfl
theorem q_605 : Cond.instanceMethod yX6_operates ∈ zWs := qt_5 _ (List.mem_of_getElem? (i := 69) rfl) rfl
theorem q_606 : Cond.selects RX6 yX6_operates yX6_operates ∈ zWs := qp_4 _ (List.mem_of_getElem? (i := 1) rfl)
theorem q_607 : Cond.code yX6_operates cX6_operates 7 (some .int) ∈ zWs := qt_5 _ (List.mem_of_getElem? (i := 70) rfl) rfl
theorem q_608 : Cond.methodLink RX6 177 yX6_levels ∈ zWs := qt_5 _ (List.mem_of_getElem? (i := 71) rfl) rfl
theorem q_609 : Cond.instanceMethod yX6_levels ∈ zWs := qt_5 _ (List.mem_of_getElem? (i := 73) rfl) rfl
theorem q_610 : Cond.selects RX6 yX6_levels yX6_levels ∈ zWs := qp_4 _ (List.mem_of_getElem? (i := 2) rfl)
theorem q_611 : Cond.code yX6_levels cX6_levels 4 none ∈ zWs := qt_5 _ (List.mem_of_getElem? (i := 74) rfl) rfl
theorem q_612 : Cond.methodLink RX6 180 yX6_income ∈ zWs := qt_5 _ (List.mem_of_getElem? (i := 75) rfl) rfl
theorem q_613 : Cond.instanceMethod yX6_income ∈ zWs := qt_5 _ (List.mem_of_getElem? (i := 77) rfl) rfl
theorem q_614 : Cond.selects RX6 yX6_income yX6_income ∈ zWs := qp_4 _ (List.mem_of_getElem? (i := 3) rfl)
theorem q_615 : Cond.code yX6_income cX6_income 2 (some .int) ∈ zWs := qt_5 _ (List.mem_of_getElem? (i := 78) rfl) rfl
theorem q_616 : Cond.fieldLink RX6 153 "StockLinesModel" "bestSum" "I" ∈ zWs := qt_4 _ (List.mem_of_getElem? (i := 82) rfl) rfl
theorem q_617 : Cond.methodLink RX6 165 yX6_findsRoute ∈ zWs := qt_5 _ (List.mem_of_getElem? (i := 79) rfl) rfl
theorem q_618 : Cond.instanceMethod yX6_findsRoute ∈ zWs := qt_5 _ (List.mem_of_getElem? (i := 81) rfl) rfl
theorem q_619 : Cond.selects RX6 yX6_findsRoute yX6_findsRoute ∈ zWs := qp_4 _ (List.mem_of_getElem? (i := 4) rfl)
theorem q_620 : Cond.code yX6_findsRoute cX6_findsRoute 6 none ∈ zWs := qt_5 _ (List.mem_of_getElem? (i := 82) rfl) rfl
theorem q_621 : Cond.fieldLink RX6 156 "StockLinesModel" "bestMany" "I" ∈ zWs := qt_4 _ (List.mem_of_getElem? (i := 81) rfl) rfl
theorem q_622 : Cond.methodLink RX6 159 yX6_comes ∈ zWs := qt_5 _ (List.mem_of_getElem? (i := 83) rfl) rfl
theorem q_623 : Cond.instanceMethod yX6_comes ∈ zWs := qt_5 _ (List.mem_of_getElem? (i := 85) rfl) rfl
theorem q_624 : Cond.selects RX6 yX6_comes yX6_comes ∈ zWs := qp_4 _ (List.mem_of_getElem? (i := 5) rfl)
theorem q_625 : Cond.code yX6_comes cX6_comes 4 none ∈ zWs := qt_5 _ (List.mem_of_getElem? (i := 86) rfl) rfl
theorem q_626 : Cond.methodLink RX6 162 yX6_keepsBest ∈ zWs := qt_5 _ (List.mem_of_getElem? (i := 87) rfl) rfl
theorem q_627 : Cond.instanceMethod yX6_keepsBest ∈ zWs := qt_5 _ (List.mem_of_getElem? (i := 89) rfl) rfl
theorem q_628 : Cond.selects RX6 yX6_keepsBest yX6_keepsBest ∈ zWs := qp_4 _ (List.mem_of_getElem? (i := 6) rfl)
theorem q_629 : Cond.code yX6_keepsBest cX6_keepsBest 3 none ∈ zWs := qt_5 _ (List.mem_of_getElem? (i := 90) rfl) rfl
theorem q_630 : Cond.methodLink RX6 183 yX6_upkeep ∈ zWs := qt_5 _ (List.mem_of_getElem? (i := 91) rfl) rfl
theorem q_631 : Cond.instanceMethod yX6_upkeep ∈ zWs := qt_5 _ (List.mem_of_getElem? (i := 93) rfl) rfl
theorem q_632 : Cond.selects RX6 yX6_upkeep yX6_upkeep ∈ zWs := qp_4 _ (List.mem_of_getElem? (i := 7) rfl)
theorem q_633 : Cond.code yX6_upkeep cX6_upkeep 4 none ∈ zWs := qt_5 _ (List.mem_of_getElem? (i := 94) rfl) rfl
theorem q_634 : Cond.methodLink RX6 171 yX6_isPaid ∈ zWs := qt_5 _ (List.mem_of_getElem? (i := 95) rfl) rfl
theorem q_635 : Cond.instanceMethod yX6_isPaid ∈ zWs := qt_5 _ (List.mem_of_getElem? (i := 97) rfl) rfl
theorem q_636 : Cond.selects RX6 yX6_isPaid yX6_isPaid ∈ zWs := qp_4 _ (List.mem_of_getElem? (i := 8) rfl)
theorem q_637 : Cond.code yX6_isPaid cX6_isPaid 6 (some .boolean) ∈ zWs := qt_5 _ (List.mem_of_getElem? (i := 98) rfl) rfl
theorem q_638 : Cond.methodLink RX6 168 yX6_cheapest ∈ zWs := qt_5 _ (List.mem_of_getElem? (i := 99) rfl) rfl
theorem q_639 : Cond.instanceMethod yX6_cheapest ∈ zWs := qt_5 _ (List.mem_of_getElem? (i := 101) rfl) rfl
theorem q_640 : Cond.selects RX6 yX6_cheapest yX6_cheapest ∈ zWs := qp_4 _ (List.mem_of_getElem? (i := 9) rfl)
theorem q_641 : Cond.code yX6_cheapest cX6_cheapest 5 (some .int) ∈ zWs := qt_5 _ (List.mem_of_getElem? (i := 102) rfl) rfl
theorem q_642 : Cond.methodLink RL 121 yL_player ∈ zWs := qt_3 _ (List.mem_of_getElem? (i := 218) rfl) rfl
theorem q_643 : Cond.static yL_player ∈ zWs := qt_3 _ (List.mem_of_getElem? (i := 219) rfl) rfl
theorem q_644 : Cond.codeWith yL_player cL_player 5 (some .int) [(0, 10, 13, 19), (0, 10, 17, 13)] ∈ zWs := qt_3 _ (List.mem_of_getElem? (i := 220) rfl) rfl
theorem q_645 : Cond.methodLink RL 47 yX5_player ∈ zWs := qt_3 _ (List.mem_of_getElem? (i := 221) rfl) rfl
theorem q_646 : Cond.instanceMethod yX5_player ∈ zWs := qt_3 _ (List.mem_of_getElem? (i := 62) rfl) rfl
theorem q_647 : Cond.selects RX5 yX5_player yX5_player ∈ zWs := qt_3 _ (List.mem_of_getElem? (i := 63) rfl) rfl
theorem q_648 : Cond.code yX5_player cX5_player 3 (some .int) ∈ zWs := qt_3 _ (List.mem_of_getElem? (i := 64) rfl) rfl
theorem q_649 : Cond.fieldLink RX5 136 "StockLines$Game" "players" "I" ∈ zWs := qt_1 _ (List.mem_of_getElem? (i := 155) rfl) rfl
theorem q_650 : Cond.fieldLink RX5 139 "StockLines$Company" "held" "[I" ∈ zWs := qt_1 _ (List.mem_of_getElem? (i := 92) rfl) rfl
theorem q_651 : Cond.methodLink RX5 142 yX1_worthOf ∈ zWs := qt_1 _ (List.mem_of_getElem? (i := 228) rfl) rfl
theorem q_652 : Cond.instanceMethod yX1_worthOf ∈ zWs := qt_1 _ (List.mem_of_getElem? (i := 229) rfl) rfl
theorem q_653 : Cond.selects RX1 yX1_worthOf yX1_worthOf ∈ zWs := qt_1 _ (List.mem_of_getElem? (i := 230) rfl) rfl
theorem q_654 : Cond.code yX1_worthOf cX1_worthOf 4 (some .int) ∈ zWs := qt_1 _ (List.mem_of_getElem? (i := 231) rfl) rfl
theorem q_655 : Cond.methodLink RX5 145 yX1_presidenciesOf ∈ zWs := qt_3 _ (List.mem_of_getElem? (i := 80) rfl) rfl
theorem q_656 : Cond.instanceMethod yX1_presidenciesOf ∈ zWs := qt_3 _ (List.mem_of_getElem? (i := 81) rfl) rfl
theorem q_657 : Cond.selects RX1 yX1_presidenciesOf yX1_presidenciesOf ∈ zWs := qt_3 _ (List.mem_of_getElem? (i := 82) rfl) rfl
theorem q_658 : Cond.code yX1_presidenciesOf cX1_presidenciesOf 4 (some .int) ∈ zWs := qt_3 _ (List.mem_of_getElem? (i := 83) rfl) rfl
theorem q_659 : Cond.methodLink RL 123 yX6_player ∈ zWs := qt_5 _ (List.mem_of_getElem? (i := 103) rfl) rfl
theorem q_660 : Cond.instanceMethod yX6_player ∈ zWs := qt_5 _ (List.mem_of_getElem? (i := 104) rfl) rfl
theorem q_661 : Cond.selects RX6 yX6_player yX6_player ∈ zWs := qt_5 _ (List.mem_of_getElem? (i := 105) rfl) rfl
theorem q_662 : Cond.code yX6_player cX6_player 3 (some .int) ∈ zWs := qt_5 _ (List.mem_of_getElem? (i := 106) rfl) rfl
theorem q_663 : Cond.methodLink RX6 199 yX6_isPlayer ∈ zWs := qt_5 _ (List.mem_of_getElem? (i := 107) rfl) rfl
theorem q_664 : Cond.instanceMethod yX6_isPlayer ∈ zWs := qt_5 _ (List.mem_of_getElem? (i := 109) rfl) rfl
theorem q_665 : Cond.selects RX6 yX6_isPlayer yX6_isPlayer ∈ zWs := qp_4 _ (List.mem_of_getElem? (i := 10) rfl)
theorem q_666 : Cond.code yX6_isPlayer cX6_isPlayer 2 (some .boolean) ∈ zWs := qt_5 _ (List.mem_of_getElem? (i := 110) rfl) rfl
theorem q_667 : Cond.methodLink RX6 202 yX6_tellPlayer ∈ zWs := qt_5 _ (List.mem_of_getElem? (i := 111) rfl) rfl
theorem q_668 : Cond.instanceMethod yX6_tellPlayer ∈ zWs := qt_5 _ (List.mem_of_getElem? (i := 113) rfl) rfl
theorem q_669 : Cond.selects RX6 yX6_tellPlayer yX6_tellPlayer ∈ zWs := qp_4 _ (List.mem_of_getElem? (i := 11) rfl)
theorem q_670 : Cond.code yX6_tellPlayer cX6_tellPlayer 3 (some .int) ∈ zWs := qt_5 _ (List.mem_of_getElem? (i := 114) rfl) rfl
theorem q_671 : Cond.methodLink RX6 193 yX6_worth ∈ zWs := qt_5 _ (List.mem_of_getElem? (i := 115) rfl) rfl
theorem q_672 : Cond.instanceMethod yX6_worth ∈ zWs := qt_5 _ (List.mem_of_getElem? (i := 117) rfl) rfl
theorem q_673 : Cond.selects RX6 yX6_worth yX6_worth ∈ zWs := qp_4 _ (List.mem_of_getElem? (i := 12) rfl)
theorem q_674 : Cond.code yX6_worth cX6_worth 4 (some .int) ∈ zWs := qt_5 _ (List.mem_of_getElem? (i := 118) rfl) rfl
theorem q_675 : Cond.methodLink RX6 196 yX6_presidencies ∈ zWs := qt_5 _ (List.mem_of_getElem? (i := 119) rfl) rfl
theorem q_676 : Cond.instanceMethod yX6_presidencies ∈ zWs := qt_5 _ (List.mem_of_getElem? (i := 121) rfl) rfl
theorem q_677 : Cond.selects RX6 yX6_presidencies yX6_presidencies ∈ zWs := qp_4 _ (List.mem_of_getElem? (i := 13) rfl)
theorem q_678 : Cond.code yX6_presidencies cX6_presidencies 4 (some .int) ∈ zWs := qt_5 _ (List.mem_of_getElem? (i := 122) rfl) rfl
theorem q_679 : Cond.methodLink RL 124 yL_company ∈ zWs := qt_3 _ (List.mem_of_getElem? (i := 222) rfl) rfl
theorem q_680 : Cond.static yL_company ∈ zWs := qt_3 _ (List.mem_of_getElem? (i := 223) rfl) rfl
theorem q_681 : Cond.codeWith yL_company cL_company 5 (some .int) [(0, 10, 13, 19), (0, 10, 17, 13)] ∈ zWs := qt_3 _ (List.mem_of_getElem? (i := 224) rfl) rfl
theorem q_682 : Cond.methodLink RL 50 yX5_company ∈ zWs := qt_3 _ (List.mem_of_getElem? (i := 225) rfl) rfl
theorem q_683 : Cond.instanceMethod yX5_company ∈ zWs := qt_3 _ (List.mem_of_getElem? (i := 85) rfl) rfl
theorem q_684 : Cond.selects RX5 yX5_company yX5_company ∈ zWs := qt_3 _ (List.mem_of_getElem? (i := 86) rfl) rfl
theorem q_685 : Cond.code yX5_company cX5_company 4 (some .int) ∈ zWs := qt_3 _ (List.mem_of_getElem? (i := 87) rfl) rfl
theorem q_686 : Cond.fieldLink RX5 148 "StockLines$Company" "open" "Z" ∈ zWs := qt_1 _ (List.mem_of_getElem? (i := 95) rfl) rfl
theorem q_687 : Cond.methodLink RX5 151 yX1_incomeOf ∈ zWs := qt_3 _ (List.mem_of_getElem? (i := 88) rfl) rfl
theorem q_688 : Cond.methodLink RX5 155 yX0_number ∈ zWs := qt_3 _ (List.mem_of_getElem? (i := 89) rfl) rfl
theorem q_689 : Cond.instanceMethod yX0_number ∈ zWs := qt_3 _ (List.mem_of_getElem? (i := 90) rfl) rfl
theorem q_690 : Cond.selects RX0 yX0_number yX0_number ∈ zWs := qt_3 _ (List.mem_of_getElem? (i := 91) rfl) rfl
theorem q_691 : Cond.code yX0_number cX0_number 2 (some .int) ∈ zWs := qt_3 _ (List.mem_of_getElem? (i := 92) rfl) rfl
theorem q_692 : Cond.methodLink RX0 54 yX0_price ∈ zWs := qt_3 _ (List.mem_of_getElem? (i := 93) rfl) rfl
theorem q_693 : Cond.methodLink RX0 58 yX0_bankShares ∈ zWs := qt_3 _ (List.mem_of_getElem? (i := 94) rfl) rfl
theorem q_694 : Cond.methodLink RL 126 yX6_company ∈ zWs := qt_5 _ (List.mem_of_getElem? (i := 123) rfl) rfl
theorem q_695 : Cond.instanceMethod yX6_company ∈ zWs := qt_5 _ (List.mem_of_getElem? (i := 124) rfl) rfl
theorem q_696 : Cond.selects RX6 yX6_company yX6_company ∈ zWs := qt_5 _ (List.mem_of_getElem? (i := 125) rfl) rfl
theorem q_697 : Cond.code yX6_company cX6_company 3 (some .int) ∈ zWs := qt_5 _ (List.mem_of_getElem? (i := 126) rfl) rfl
theorem q_698 : Cond.methodLink RX6 205 yX6_tellCompany ∈ zWs := qt_5 _ (List.mem_of_getElem? (i := 127) rfl) rfl
theorem q_699 : Cond.instanceMethod yX6_tellCompany ∈ zWs := qt_5 _ (List.mem_of_getElem? (i := 129) rfl) rfl
theorem q_700 : Cond.selects RX6 yX6_tellCompany yX6_tellCompany ∈ zWs := qp_4 _ (List.mem_of_getElem? (i := 14) rfl)
theorem q_701 : Cond.code yX6_tellCompany cX6_tellCompany 3 (some .int) ∈ zWs := qt_5 _ (List.mem_of_getElem? (i := 130) rfl) rfl
theorem q_702 : Cond.methodLink RL 127 yL_track ∈ zWs := qt_3 _ (List.mem_of_getElem? (i := 226) rfl) rfl
theorem q_703 : Cond.static yL_track ∈ zWs := qt_3 _ (List.mem_of_getElem? (i := 227) rfl) rfl
theorem q_704 : Cond.codeWith yL_track cL_track 5 (some .int) [(0, 10, 13, 19)] ∈ zWs := qt_3 _ (List.mem_of_getElem? (i := 228) rfl) rfl
theorem q_705 : Cond.methodLink RL 53 yX5_track ∈ zWs := qt_3 _ (List.mem_of_getElem? (i := 229) rfl) rfl
theorem q_706 : Cond.instanceMethod yX5_track ∈ zWs := qt_3 _ (List.mem_of_getElem? (i := 96) rfl) rfl
theorem q_707 : Cond.selects RX5 yX5_track yX5_track ∈ zWs := qt_3 _ (List.mem_of_getElem? (i := 97) rfl) rfl
theorem q_708 : Cond.code yX5_track cX5_track 3 (some .int) ∈ zWs := qt_3 _ (List.mem_of_getElem? (i := 98) rfl) rfl
theorem q_709 : Cond.fieldLink RX5 158 "StockLines$Land" "level" "[[I" ∈ zWs := qt_1 _ (List.mem_of_getElem? (i := 76) rfl) rfl
theorem q_710 : Cond.methodLink RL 129 yX6_track ∈ zWs := qt_5 _ (List.mem_of_getElem? (i := 131) rfl) rfl
theorem q_711 : Cond.instanceMethod yX6_track ∈ zWs := qt_5 _ (List.mem_of_getElem? (i := 132) rfl) rfl
theorem q_712 : Cond.selects RX6 yX6_track yX6_track ∈ zWs := qt_5 _ (List.mem_of_getElem? (i := 133) rfl) rfl
theorem q_713 : Cond.code yX6_track cX6_track 3 (some .int) ∈ zWs := qt_5 _ (List.mem_of_getElem? (i := 134) rfl) rfl
theorem q_714 : Cond.methodLink RL 130 yL_value ∈ zWs := qt_3 _ (List.mem_of_getElem? (i := 230) rfl) rfl
theorem q_715 : Cond.static yL_value ∈ zWs := qt_3 _ (List.mem_of_getElem? (i := 231) rfl) rfl
theorem q_716 : Cond.codeWith yL_value cL_value 4 (some .int) [(0, 9, 12, 13)] ∈ zWs := qt_3 _ (List.mem_of_getElem? (i := 232) rfl) rfl
theorem q_717 : Cond.methodLink RL 56 yX5_value ∈ zWs := qt_3 _ (List.mem_of_getElem? (i := 233) rfl) rfl
theorem q_718 : Cond.instanceMethod yX5_value ∈ zWs := qt_2 _ (List.mem_of_getElem? (i := 226) rfl) rfl
theorem q_719 : Cond.selects RX5 yX5_value yX5_value ∈ zWs := qt_2 _ (List.mem_of_getElem? (i := 227) rfl) rfl
theorem q_720 : Cond.code yX5_value cX5_value 2 (some .int) ∈ zWs := qt_2 _ (List.mem_of_getElem? (i := 228) rfl) rfl
theorem q_721 : Cond.methodLink RX5 162 yX1_number ∈ zWs := qt_3 _ (List.mem_of_getElem? (i := 52) rfl) rfl
theorem q_722 : Cond.instanceMethod yX1_number ∈ zWs := qt_3 _ (List.mem_of_getElem? (i := 53) rfl) rfl
theorem q_723 : Cond.selects RX1 yX1_number yX1_number ∈ zWs := qt_3 _ (List.mem_of_getElem? (i := 54) rfl) rfl
theorem q_724 : Cond.code yX1_number cX1_number 2 (some .int) ∈ zWs := qt_3 _ (List.mem_of_getElem? (i := 55) rfl) rfl
theorem q_725 : Cond.methodLink RX1 236 yX2_tracks ∈ zWs := qt_3 _ (List.mem_of_getElem? (i := 56) rfl) rfl
theorem q_726 : Cond.instanceMethod yX2_tracks ∈ zWs := qt_3 _ (List.mem_of_getElem? (i := 57) rfl) rfl
theorem q_727 : Cond.selects RX2 yX2_tracks yX2_tracks ∈ zWs := qt_3 _ (List.mem_of_getElem? (i := 58) rfl) rfl
theorem q_728 : Cond.code yX2_tracks cX2_tracks 4 (some .int) ∈ zWs := qt_3 _ (List.mem_of_getElem? (i := 59) rfl) rfl
theorem q_729 : Cond.methodLink RX1 239 yX1_openCompanies ∈ zWs := qt_3 _ (List.mem_of_getElem? (i := 60) rfl) rfl
theorem q_730 : Cond.instanceMethod yX1_openCompanies ∈ zWs := qt_2 _ (List.mem_of_getElem? (i := 4) rfl) rfl
theorem q_731 : Cond.selects RX1 yX1_openCompanies yX1_openCompanies ∈ zWs := qt_2 _ (List.mem_of_getElem? (i := 5) rfl) rfl
theorem q_732 : Cond.code yX1_openCompanies cX1_openCompanies 3 (some .int) ∈ zWs := qt_2 _ (List.mem_of_getElem? (i := 6) rfl) rfl
theorem q_733 : Cond.methodLink RL 132 yX6_value ∈ zWs := qt_5 _ (List.mem_of_getElem? (i := 135) rfl) rfl
theorem q_734 : Cond.instanceMethod yX6_value ∈ zWs := qt_5 _ (List.mem_of_getElem? (i := 136) rfl) rfl
theorem q_735 : Cond.selects RX6 yX6_value yX6_value ∈ zWs := qt_5 _ (List.mem_of_getElem? (i := 137) rfl) rfl
theorem q_736 : Cond.code yX6_value cX6_value 2 (some .int) ∈ zWs := qt_5 _ (List.mem_of_getElem? (i := 138) rfl) rfl
theorem q_737 : Cond.methodLink RX6 214 yX6_tellValue ∈ zWs := qt_5 _ (List.mem_of_getElem? (i := 139) rfl) rfl
theorem q_738 : Cond.instanceMethod yX6_tellValue ∈ zWs := qt_5 _ (List.mem_of_getElem? (i := 141) rfl) rfl
theorem q_739 : Cond.selects RX6 yX6_tellValue yX6_tellValue ∈ zWs := qp_4 _ (List.mem_of_getElem? (i := 15) rfl)
theorem q_740 : Cond.code yX6_tellValue cX6_tellValue 2 (some .int) ∈ zWs := qt_5 _ (List.mem_of_getElem? (i := 142) rfl) rfl
theorem q_741 : Cond.methodLink RX6 208 yX6_tracks ∈ zWs := qt_5 _ (List.mem_of_getElem? (i := 143) rfl) rfl
theorem q_742 : Cond.instanceMethod yX6_tracks ∈ zWs := qt_5 _ (List.mem_of_getElem? (i := 145) rfl) rfl
theorem q_743 : Cond.selects RX6 yX6_tracks yX6_tracks ∈ zWs := qp_5 _ (List.mem_of_getElem? (i := 0) rfl)
theorem q_744 : Cond.code yX6_tracks cX6_tracks 3 (some .int) ∈ zWs := qt_5 _ (List.mem_of_getElem? (i := 146) rfl) rfl
theorem q_745 : Cond.methodLink RX6 211 yX6_openOnes ∈ zWs := qt_5 _ (List.mem_of_getElem? (i := 147) rfl) rfl
theorem q_746 : Cond.instanceMethod yX6_openOnes ∈ zWs := qt_5 _ (List.mem_of_getElem? (i := 149) rfl) rfl
theorem q_747 : Cond.selects RX6 yX6_openOnes yX6_openOnes ∈ zWs := qp_5 _ (List.mem_of_getElem? (i := 1) rfl)
theorem q_748 : Cond.code yX6_openOnes cX6_openOnes 3 (some .int) ∈ zWs := qt_5 _ (List.mem_of_getElem? (i := 150) rfl) rfl
theorem q_749 : Cond.methodLink RL 133 yL_town ∈ zWs := qt_3 _ (List.mem_of_getElem? (i := 234) rfl) rfl
theorem q_750 : Cond.static yL_town ∈ zWs := qt_3 _ (List.mem_of_getElem? (i := 235) rfl) rfl
theorem q_751 : Cond.codeWith yL_town cL_town 4 (some .int) [(0, 9, 12, 19)] ∈ zWs := qt_3 _ (List.mem_of_getElem? (i := 236) rfl) rfl
theorem q_752 : Cond.methodLink RL 59 yX5_town ∈ zWs := qt_3 _ (List.mem_of_getElem? (i := 237) rfl) rfl
theorem q_753 : Cond.instanceMethod yX5_town ∈ zWs := qt_3 _ (List.mem_of_getElem? (i := 101) rfl) rfl
theorem q_754 : Cond.selects RX5 yX5_town yX5_town ∈ zWs := qt_3 _ (List.mem_of_getElem? (i := 102) rfl) rfl
theorem q_755 : Cond.code yX5_town cX5_town 2 (some .int) ∈ zWs := qt_3 _ (List.mem_of_getElem? (i := 103) rfl) rfl
theorem q_756 : Cond.methodLink RL 135 yX6_town ∈ zWs := qt_5 _ (List.mem_of_getElem? (i := 151) rfl) rfl
theorem q_757 : Cond.instanceMethod yX6_town ∈ zWs := qt_5 _ (List.mem_of_getElem? (i := 152) rfl) rfl
theorem q_758 : Cond.selects RX6 yX6_town yX6_town ∈ zWs := qt_5 _ (List.mem_of_getElem? (i := 153) rfl) rfl
theorem q_759 : Cond.code yX6_town cX6_town 2 (some .int) ∈ zWs := qt_5 _ (List.mem_of_getElem? (i := 154) rfl) rfl
theorem q_760 : Cond.methodLink RL 136 yL_route ∈ zWs := qt_3 _ (List.mem_of_getElem? (i := 238) rfl) rfl
theorem q_761 : Cond.static yL_route ∈ zWs := qt_3 _ (List.mem_of_getElem? (i := 239) rfl) rfl
theorem q_762 : Cond.codeWith yL_route cL_route 5 (some .int) [(0, 10, 13, 19)] ∈ zWs := qt_4 _ (List.mem_of_getElem? (i := 0) rfl) rfl
theorem q_763 : Cond.methodLink RL 62 yX5_route ∈ zWs := qt_4 _ (List.mem_of_getElem? (i := 1) rfl) rfl
theorem q_764 : Cond.instanceMethod yX5_route ∈ zWs := qt_4 _ (List.mem_of_getElem? (i := 2) rfl) rfl
theorem q_765 : Cond.selects RX5 yX5_route yX5_route ∈ zWs := qt_4 _ (List.mem_of_getElem? (i := 3) rfl) rfl
theorem q_766 : Cond.code yX5_route cX5_route 3 (some .int) ∈ zWs := qt_4 _ (List.mem_of_getElem? (i := 4) rfl) rfl
theorem q_767 : Cond.methodLink RX5 163 yX1_routeTown ∈ zWs := qt_4 _ (List.mem_of_getElem? (i := 5) rfl) rfl
theorem q_768 : Cond.instanceMethod yX1_routeTown ∈ zWs := qt_4 _ (List.mem_of_getElem? (i := 6) rfl) rfl
theorem q_769 : Cond.selects RX1 yX1_routeTown yX1_routeTown ∈ zWs := qt_4 _ (List.mem_of_getElem? (i := 7) rfl) rfl
theorem q_770 : Cond.code yX1_routeTown cX1_routeTown 3 (some .int) ∈ zWs := qt_4 _ (List.mem_of_getElem? (i := 8) rfl) rfl
theorem q_771 : Cond.methodLink RX1 233 yX3_routeTown ∈ zWs := qt_4 _ (List.mem_of_getElem? (i := 9) rfl) rfl
theorem q_772 : Cond.instanceMethod yX3_routeTown ∈ zWs := qt_4 _ (List.mem_of_getElem? (i := 10) rfl) rfl
theorem q_773 : Cond.selects RX3 yX3_routeTown yX3_routeTown ∈ zWs := qt_4 _ (List.mem_of_getElem? (i := 11) rfl) rfl
theorem q_774 : Cond.code yX3_routeTown cX3_routeTown 2 (some .int) ∈ zWs := qt_4 _ (List.mem_of_getElem? (i := 12) rfl) rfl
theorem q_775 : Cond.methodLink RL 138 yX6_route ∈ zWs := qt_5 _ (List.mem_of_getElem? (i := 155) rfl) rfl
theorem q_776 : Cond.instanceMethod yX6_route ∈ zWs := qt_5 _ (List.mem_of_getElem? (i := 156) rfl) rfl
theorem q_777 : Cond.selects RX6 yX6_route yX6_route ∈ zWs := qt_5 _ (List.mem_of_getElem? (i := 157) rfl) rfl
theorem q_778 : Cond.code yX6_route cX6_route 3 (some .int) ∈ zWs := qt_5 _ (List.mem_of_getElem? (i := 158) rfl) rfl
theorem q_779 : Cond.methodLink RL 139 yL_incomeWith ∈ zWs := qt_4 _ (List.mem_of_getElem? (i := 13) rfl) rfl
theorem q_780 : Cond.static yL_incomeWith ∈ zWs := qt_4 _ (List.mem_of_getElem? (i := 14) rfl) rfl
theorem q_781 : Cond.codeWith yL_incomeWith cL_incomeWith 6 (some .int) [(0, 12, 15, 19), (0, 12, 19, 13)] ∈ zWs := qt_4 _ (List.mem_of_getElem? (i := 15) rfl) rfl
theorem q_782 : Cond.methodLink RL 65 yX5_incomeWith ∈ zWs := qt_4 _ (List.mem_of_getElem? (i := 16) rfl) rfl
theorem q_783 : Cond.instanceMethod yX5_incomeWith ∈ zWs := qt_4 _ (List.mem_of_getElem? (i := 17) rfl) rfl
theorem q_784 : Cond.selects RX5 yX5_incomeWith yX5_incomeWith ∈ zWs := qt_4 _ (List.mem_of_getElem? (i := 18) rfl) rfl
theorem q_785 : Cond.code yX5_incomeWith cX5_incomeWith 5 (some .int) ∈ zWs := qt_4 _ (List.mem_of_getElem? (i := 19) rfl) rfl
theorem q_786 : Cond.methodLink RX5 167 yX1_incomeIfRaised ∈ zWs := qt_4 _ (List.mem_of_getElem? (i := 20) rfl) rfl
theorem q_787 : Cond.instanceMethod yX1_incomeIfRaised ∈ zWs := qt_4 _ (List.mem_of_getElem? (i := 21) rfl) rfl
theorem q_788 : Cond.selects RX1 yX1_incomeIfRaised yX1_incomeIfRaised ∈ zWs := qt_4 _ (List.mem_of_getElem? (i := 22) rfl) rfl
theorem q_789 : Cond.code yX1_incomeIfRaised cX1_incomeIfRaised 6 (some .int) ∈ zWs := qt_4 _ (List.mem_of_getElem? (i := 23) rfl) rfl
theorem q_790 : Cond.methodLink RL 141 yX6_incomeWith ∈ zWs := qt_5 _ (List.mem_of_getElem? (i := 159) rfl) rfl
theorem q_791 : Cond.instanceMethod yX6_incomeWith ∈ zWs := qt_5 _ (List.mem_of_getElem? (i := 160) rfl) rfl
theorem q_792 : Cond.selects RX6 yX6_incomeWith yX6_incomeWith ∈ zWs := qt_5 _ (List.mem_of_getElem? (i := 161) rfl) rfl
theorem q_793 : Cond.code yX6_incomeWith cX6_incomeWith 4 (some .int) ∈ zWs := qt_5 _ (List.mem_of_getElem? (i := 162) rfl) rfl
theorem q_794 : Cond.methodLink RX6 217 yX6_incomeBy ∈ zWs := qt_5 _ (List.mem_of_getElem? (i := 163) rfl) rfl
theorem q_795 : Cond.instanceMethod yX6_incomeBy ∈ zWs := qt_5 _ (List.mem_of_getElem? (i := 165) rfl) rfl
theorem q_796 : Cond.selects RX6 yX6_incomeBy yX6_incomeBy ∈ zWs := qp_5 _ (List.mem_of_getElem? (i := 2) rfl)
theorem q_797 : Cond.code yX6_incomeBy cX6_incomeBy 6 (some .int) ∈ zWs := qt_5 _ (List.mem_of_getElem? (i := 166) rfl) rfl
theorem q_798 : Cond.methodLink RL 142 yL_bestTrack ∈ zWs := qt_4 _ (List.mem_of_getElem? (i := 24) rfl) rfl
theorem q_799 : Cond.static yL_bestTrack ∈ zWs := qt_4 _ (List.mem_of_getElem? (i := 25) rfl) rfl
theorem q_800 : Cond.codeWith yL_bestTrack cL_bestTrack 4 (some .int) [(0, 9, 12, 19)] ∈ zWs := qt_4 _ (List.mem_of_getElem? (i := 26) rfl) rfl
theorem q_801 : Cond.methodLink RL 68 yX5_bestTrack ∈ zWs := qt_4 _ (List.mem_of_getElem? (i := 27) rfl) rfl
theorem q_802 : Cond.instanceMethod yX5_bestTrack ∈ zWs := qt_4 _ (List.mem_of_getElem? (i := 28) rfl) rfl
theorem q_803 : Cond.selects RX5 yX5_bestTrack yX5_bestTrack ∈ zWs := qt_4 _ (List.mem_of_getElem? (i := 29) rfl) rfl
theorem q_804 : Cond.code yX5_bestTrack cX5_bestTrack 2 (some .int) ∈ zWs := qt_4 _ (List.mem_of_getElem? (i := 30) rfl) rfl
theorem q_805 : Cond.methodLink RX5 171 yX1_bestTrackOf ∈ zWs := qt_4 _ (List.mem_of_getElem? (i := 31) rfl) rfl
theorem q_806 : Cond.instanceMethod yX1_bestTrackOf ∈ zWs := qt_4 _ (List.mem_of_getElem? (i := 32) rfl) rfl
theorem q_807 : Cond.selects RX1 yX1_bestTrackOf yX1_bestTrackOf ∈ zWs := qt_4 _ (List.mem_of_getElem? (i := 33) rfl) rfl
theorem q_808 : Cond.code yX1_bestTrackOf cX1_bestTrackOf 7 (some .int) ∈ zWs := qt_4 _ (List.mem_of_getElem? (i := 34) rfl) rfl
theorem q_809 : Cond.methodLink RX1 229 yX1_incomeIfRaised ∈ zWs := qt_4 _ (List.mem_of_getElem? (i := 35) rfl) rfl
theorem q_810 : Cond.methodLink RL 144 yX6_bestTrack ∈ zWs := qt_5 _ (List.mem_of_getElem? (i := 167) rfl) rfl
theorem q_811 : Cond.instanceMethod yX6_bestTrack ∈ zWs := qt_5 _ (List.mem_of_getElem? (i := 168) rfl) rfl
theorem q_812 : Cond.selects RX6 yX6_bestTrack yX6_bestTrack ∈ zWs := qt_5 _ (List.mem_of_getElem? (i := 169) rfl) rfl
theorem q_813 : Cond.code yX6_bestTrack cX6_bestTrack 9 (some .int) ∈ zWs := qt_5 _ (List.mem_of_getElem? (i := 170) rfl) rfl
theorem q_814 : Cond.methodLink RL 145 yL_dividend ∈ zWs := qt_4 _ (List.mem_of_getElem? (i := 36) rfl) rfl
theorem q_815 : Cond.static yL_dividend ∈ zWs := qt_4 _ (List.mem_of_getElem? (i := 37) rfl) rfl
theorem q_816 : Cond.codeWith yL_dividend cL_dividend 4 (some .int) [(0, 9, 12, 19)] ∈ zWs := qt_4 _ (List.mem_of_getElem? (i := 38) rfl) rfl
theorem q_817 : Cond.methodLink RL 71 yX5_dividend ∈ zWs := qt_4 _ (List.mem_of_getElem? (i := 39) rfl) rfl
theorem q_818 : Cond.instanceMethod yX5_dividend ∈ zWs := qt_4 _ (List.mem_of_getElem? (i := 40) rfl) rfl
theorem q_819 : Cond.selects RX5 yX5_dividend yX5_dividend ∈ zWs := qt_4 _ (List.mem_of_getElem? (i := 41) rfl) rfl
theorem q_820 : Cond.code yX5_dividend cX5_dividend 3 (some .int) ∈ zWs := qt_4 _ (List.mem_of_getElem? (i := 42) rfl) rfl
theorem q_821 : Cond.methodLink RL 147 yX6_dividend ∈ zWs := qt_5 _ (List.mem_of_getElem? (i := 171) rfl) rfl
theorem q_822 : Cond.instanceMethod yX6_dividend ∈ zWs := qt_5 _ (List.mem_of_getElem? (i := 172) rfl) rfl
theorem q_823 : Cond.selects RX6 yX6_dividend yX6_dividend ∈ zWs := qt_5 _ (List.mem_of_getElem? (i := 173) rfl) rfl
theorem q_824 : Cond.code yX6_dividend cX6_dividend 2 (some .int) ∈ zWs := qt_5 _ (List.mem_of_getElem? (i := 174) rfl) rfl
theorem q_825 : Cond.methodLink RL 148 yX5_leader ∈ zWs := qt_1 _ (List.mem_of_getElem? (i := 224) rfl) rfl
theorem q_826 : Cond.instanceMethod yX5_leader ∈ zWs := qt_1 _ (List.mem_of_getElem? (i := 225) rfl) rfl
theorem q_827 : Cond.selects RX5 yX5_leader yX5_leader ∈ zWs := qt_1 _ (List.mem_of_getElem? (i := 226) rfl) rfl
theorem q_828 : Cond.code yX5_leader cX5_leader 3 (some .int) ∈ zWs := qt_1 _ (List.mem_of_getElem? (i := 227) rfl) rfl
theorem q_829 : Cond.methodLink RL 151 yX6_leader ∈ zWs := qt_5 _ (List.mem_of_getElem? (i := 175) rfl) rfl
theorem q_830 : Cond.instanceMethod yX6_leader ∈ zWs := qt_5 _ (List.mem_of_getElem? (i := 176) rfl) rfl
theorem q_831 : Cond.selects RX6 yX6_leader yX6_leader ∈ zWs := qt_5 _ (List.mem_of_getElem? (i := 177) rfl) rfl
theorem q_832 : Cond.code yX6_leader cX6_leader 3 (some .int) ∈ zWs := qt_5 _ (List.mem_of_getElem? (i := 178) rfl) rfl
theorem q_833 : Cond.methodLink RL 152 yX5_unsold ∈ zWs := qt_1 _ (List.mem_of_getElem? (i := 239) rfl) rfl
theorem q_834 : Cond.instanceMethod yX5_unsold ∈ zWs := qt_2 _ (List.mem_of_getElem? (i := 0) rfl) rfl
theorem q_835 : Cond.selects RX5 yX5_unsold yX5_unsold ∈ zWs := qt_2 _ (List.mem_of_getElem? (i := 1) rfl) rfl
theorem q_836 : Cond.code yX5_unsold cX5_unsold 2 (some .double) ∈ zWs := qt_2 _ (List.mem_of_getElem? (i := 2) rfl) rfl
theorem q_837 : Cond.methodLink RX5 174 yX1_openCompanies ∈ zWs := qt_2 _ (List.mem_of_getElem? (i := 3) rfl) rfl
theorem q_838 : Cond.methodLink RX5 177 yX1_unsoldShares ∈ zWs := qt_2 _ (List.mem_of_getElem? (i := 7) rfl) rfl
theorem q_839 : Cond.instanceMethod yX1_unsoldShares ∈ zWs := qt_2 _ (List.mem_of_getElem? (i := 8) rfl) rfl
theorem q_840 : Cond.selects RX1 yX1_unsoldShares yX1_unsoldShares ∈ zWs := qt_2 _ (List.mem_of_getElem? (i := 9) rfl) rfl
theorem q_841 : Cond.code yX1_unsoldShares cX1_unsoldShares 3 (some .int) ∈ zWs := qt_2 _ (List.mem_of_getElem? (i := 10) rfl) rfl
theorem q_842 : Cond.methodLink RL 156 yX6_unsold ∈ zWs := qt_5 _ (List.mem_of_getElem? (i := 179) rfl) rfl
theorem q_843 : Cond.instanceMethod yX6_unsold ∈ zWs := qt_5 _ (List.mem_of_getElem? (i := 180) rfl) rfl
theorem q_844 : Cond.selects RX6 yX6_unsold yX6_unsold ∈ zWs := qt_5 _ (List.mem_of_getElem? (i := 181) rfl) rfl
theorem q_845 : Cond.code yX6_unsold cX6_unsold 3 (some .double) ∈ zWs := qt_5 _ (List.mem_of_getElem? (i := 182) rfl) rfl
theorem q_846 : Cond.methodLink RL 157 yL_append ∈ zWs := qt_4 _ (List.mem_of_getElem? (i := 43) rfl) rfl
theorem q_847 : Cond.static yL_append ∈ zWs := qt_4 _ (List.mem_of_getElem? (i := 44) rfl) rfl
theorem q_848 : Cond.codeWith yL_append cL_append 4 (some .int) [(0, 9, 12, 13), (0, 9, 15, 25)] ∈ zWs := qt_4 _ (List.mem_of_getElem? (i := 45) rfl) rfl
theorem q_849 : Cond.methodLink RL 74 yX5_append ∈ zWs := qt_4 _ (List.mem_of_getElem? (i := 46) rfl) rfl
theorem q_850 : Cond.instanceMethod yX5_append ∈ zWs := qt_4 _ (List.mem_of_getElem? (i := 47) rfl) rfl
theorem q_851 : Cond.selects RX5 yX5_append yX5_append ∈ zWs := qt_4 _ (List.mem_of_getElem? (i := 48) rfl) rfl
theorem q_852 : Cond.code yX5_append cX5_append 2 (some .int) ∈ zWs := qt_4 _ (List.mem_of_getElem? (i := 49) rfl) rfl
theorem q_853 : Cond.fieldLink RX5 180 "StockLines$Script" "length" "I" ∈ zWs := qt_1 _ (List.mem_of_getElem? (i := 205) rfl) rfl
theorem q_854 : Cond.methodLink RX5 183 yX4_add ∈ zWs := qt_4 _ (List.mem_of_getElem? (i := 50) rfl) rfl
theorem q_855 : Cond.instanceMethod yX4_add ∈ zWs := qt_4 _ (List.mem_of_getElem? (i := 51) rfl) rfl
theorem q_856 : Cond.selects RX4 yX4_add yX4_add ∈ zWs := qt_4 _ (List.mem_of_getElem? (i := 52) rfl) rfl
theorem q_857 : Cond.code yX4_add cX4_add 2 none ∈ zWs := qt_4 _ (List.mem_of_getElem? (i := 53) rfl) rfl
theorem q_858 : Cond.fieldLink RX4 15 "StockLines$Script" "length" "I" ∈ zWs := qt_1 _ (List.mem_of_getElem? (i := 204) rfl) rfl
theorem q_859 : Cond.methodLink RL 159 yX6_append ∈ zWs := qt_5 _ (List.mem_of_getElem? (i := 183) rfl) rfl
theorem q_860 : Cond.instanceMethod yX6_append ∈ zWs := qt_5 _ (List.mem_of_getElem? (i := 184) rfl) rfl
theorem q_861 : Cond.selects RX6 yX6_append yX6_append ∈ zWs := qt_5 _ (List.mem_of_getElem? (i := 185) rfl) rfl
theorem q_862 : Cond.code yX6_append cX6_append 2 (some .int) ∈ zWs := qt_5 _ (List.mem_of_getElem? (i := 186) rfl) rfl
theorem q_863 : Cond.fieldLink RX6 221 "StockLinesModel" "length" "I" ∈ zWs := qt_4 _ (List.mem_of_getElem? (i := 75) rfl) rfl
theorem q_864 : Cond.methodLink RL 160 yX5_clearText ∈ zWs := qt_2 _ (List.mem_of_getElem? (i := 15) rfl) rfl
theorem q_865 : Cond.instanceMethod yX5_clearText ∈ zWs := qt_2 _ (List.mem_of_getElem? (i := 16) rfl) rfl
theorem q_866 : Cond.selects RX5 yX5_clearText yX5_clearText ∈ zWs := qt_2 _ (List.mem_of_getElem? (i := 17) rfl) rfl
theorem q_867 : Cond.code yX5_clearText cX5_clearText 2 (some .int) ∈ zWs := qt_2 _ (List.mem_of_getElem? (i := 18) rfl) rfl
theorem q_868 : Cond.methodLink RL 163 yX6_clearText ∈ zWs := qt_5 _ (List.mem_of_getElem? (i := 187) rfl) rfl
theorem q_869 : Cond.instanceMethod yX6_clearText ∈ zWs := qt_5 _ (List.mem_of_getElem? (i := 188) rfl) rfl
theorem q_870 : Cond.selects RX6 yX6_clearText yX6_clearText ∈ zWs := qt_5 _ (List.mem_of_getElem? (i := 189) rfl) rfl
theorem q_871 : Cond.code yX6_clearText cX6_clearText 2 (some .int) ∈ zWs := qt_5 _ (List.mem_of_getElem? (i := 190) rfl) rfl
theorem q_872 : Cond.methodLink RL 164 yX5_play ∈ zWs := qt_2 _ (List.mem_of_getElem? (i := 19) rfl) rfl
theorem q_873 : Cond.instanceMethod yX5_play ∈ zWs := qt_2 _ (List.mem_of_getElem? (i := 20) rfl) rfl
theorem q_874 : Cond.selects RX5 yX5_play yX5_play ∈ zWs := qt_2 _ (List.mem_of_getElem? (i := 21) rfl) rfl
theorem q_875 : Cond.code yX5_play cX5_play 4 (some .int) ∈ zWs := qt_2 _ (List.mem_of_getElem? (i := 22) rfl) rfl
theorem q_876 : Cond.methodLink RX5 186 yX4_errorPosition ∈ zWs := qt_2 _ (List.mem_of_getElem? (i := 23) rfl) rfl
theorem q_877 : Cond.instanceMethod yX4_errorPosition ∈ zWs := qt_2 _ (List.mem_of_getElem? (i := 24) rfl) rfl
theorem q_878 : Cond.selects RX4 yX4_errorPosition yX4_errorPosition ∈ zWs := qt_2 _ (List.mem_of_getElem? (i := 25) rfl) rfl
theorem q_879 : Cond.code yX4_errorPosition cX4_errorPosition 3 (some .int) ∈ zWs := qt_2 _ (List.mem_of_getElem? (i := 26) rfl) rfl
theorem q_880 : Cond.methodLink RX4 19 yX4_sign ∈ zWs := qt_2 _ (List.mem_of_getElem? (i := 27) rfl) rfl
theorem q_881 : Cond.instanceMethod yX4_sign ∈ zWs := qt_2 _ (List.mem_of_getElem? (i := 28) rfl) rfl
theorem q_882 : Cond.selects RX4 yX4_sign yX4_sign ∈ zWs := qt_2 _ (List.mem_of_getElem? (i := 29) rfl) rfl
theorem q_883 : Cond.code yX4_sign cX4_sign 2 (some .int) ∈ zWs := qt_2 _ (List.mem_of_getElem? (i := 30) rfl) rfl
theorem q_884 : Cond.methodLink RX4 27 yX4_behind ∈ zWs := qt_2 _ (List.mem_of_getElem? (i := 31) rfl) rfl
theorem q_885 : Cond.static yX4_behind ∈ zWs := qt_2 _ (List.mem_of_getElem? (i := 32) rfl) rfl
theorem q_886 : Cond.code yX4_behind cX4_behind 3 (some .int) ∈ zWs := qt_2 _ (List.mem_of_getElem? (i := 33) rfl) rfl
theorem q_887 : Cond.methodLink RX4 31 yX4_behindMoveSign ∈ zWs := qt_2 _ (List.mem_of_getElem? (i := 34) rfl) rfl
theorem q_888 : Cond.static yX4_behindMoveSign ∈ zWs := qt_2 _ (List.mem_of_getElem? (i := 35) rfl) rfl
theorem q_889 : Cond.code yX4_behindMoveSign cX4_behindMoveSign 1 (some .int) ∈ zWs := qt_2 _ (List.mem_of_getElem? (i := 36) rfl) rfl
theorem q_890 : Cond.methodLink RX4 23 yX4_isDigit ∈ zWs := qt_2 _ (List.mem_of_getElem? (i := 37) rfl) rfl
theorem q_891 : Cond.static yX4_isDigit ∈ zWs := qt_2 _ (List.mem_of_getElem? (i := 38) rfl) rfl
theorem q_892 : Cond.code yX4_isDigit cX4_isDigit 3 (some .boolean) ∈ zWs := qt_2 _ (List.mem_of_getElem? (i := 39) rfl) rfl
theorem q_893 : Cond.methodLink RX5 189 yX5_makeMove ∈ zWs := qt_2 _ (List.mem_of_getElem? (i := 61) rfl) rfl
theorem q_894 : Cond.instanceMethod yX5_makeMove ∈ zWs := qt_2 _ (List.mem_of_getElem? (i := 63) rfl) rfl
theorem q_895 : Cond.selects RX5 yX5_makeMove yX5_makeMove ∈ zWs := qp_1 _ (List.mem_of_getElem? (i := 1) rfl)
theorem q_896 : Cond.code yX5_makeMove cX5_makeMove 5 (some .boolean) ∈ zWs := qt_2 _ (List.mem_of_getElem? (i := 64) rfl) rfl
theorem q_897 : Cond.methodLink RX5 219 yX4_sign ∈ zWs := qt_2 _ (List.mem_of_getElem? (i := 65) rfl) rfl
theorem q_898 : Cond.methodLink RX5 222 yX4_digit ∈ zWs := qt_2 _ (List.mem_of_getElem? (i := 66) rfl) rfl
theorem q_899 : Cond.instanceMethod yX4_digit ∈ zWs := qt_2 _ (List.mem_of_getElem? (i := 67) rfl) rfl
theorem q_900 : Cond.selects RX4 yX4_digit yX4_digit ∈ zWs := qt_2 _ (List.mem_of_getElem? (i := 68) rfl) rfl
theorem q_901 : Cond.code yX4_digit cX4_digit 3 (some .int) ∈ zWs := qt_2 _ (List.mem_of_getElem? (i := 69) rfl) rfl
theorem q_902 : Cond.methodLink RX5 192 yX4_nextMove ∈ zWs := qt_2 _ (List.mem_of_getElem? (i := 215) rfl) rfl
theorem q_903 : Cond.instanceMethod yX4_nextMove ∈ zWs := qt_2 _ (List.mem_of_getElem? (i := 216) rfl) rfl
theorem q_904 : Cond.selects RX4 yX4_nextMove yX4_nextMove ∈ zWs := qt_2 _ (List.mem_of_getElem? (i := 217) rfl) rfl
theorem q_905 : Cond.code yX4_nextMove cX4_nextMove 3 (some .int) ∈ zWs := qt_2 _ (List.mem_of_getElem? (i := 218) rfl) rfl
theorem q_906 : Cond.methodLink RL 167 yX6_play ∈ zWs := qt_5 _ (List.mem_of_getElem? (i := 191) rfl) rfl
theorem q_907 : Cond.instanceMethod yX6_play ∈ zWs := qt_5 _ (List.mem_of_getElem? (i := 192) rfl) rfl
theorem q_908 : Cond.selects RX6 yX6_play yX6_play ∈ zWs := qt_5 _ (List.mem_of_getElem? (i := 193) rfl) rfl
theorem q_909 : Cond.code yX6_play cX6_play 2 (some .int) ∈ zWs := qt_5 _ (List.mem_of_getElem? (i := 194) rfl) rfl
theorem q_910 : Cond.fieldLink RX6 224 "StockLinesModel" "at" "I" ∈ zWs := qt_4 _ (List.mem_of_getElem? (i := 83) rfl) rfl
theorem q_911 : Cond.methodLink RX6 245 yX6_takesMove ∈ zWs := qt_5 _ (List.mem_of_getElem? (i := 195) rfl) rfl
theorem q_912 : Cond.instanceMethod yX6_takesMove ∈ zWs := qt_5 _ (List.mem_of_getElem? (i := 197) rfl) rfl
theorem q_913 : Cond.selects RX6 yX6_takesMove yX6_takesMove ∈ zWs := qp_5 _ (List.mem_of_getElem? (i := 3) rfl)
theorem q_914 : Cond.code yX6_takesMove cX6_takesMove 1 (some .boolean) ∈ zWs := qt_5 _ (List.mem_of_getElem? (i := 198) rfl) rfl
theorem q_915 : Cond.fieldLink RX6 227 "StockLinesModel" "letter" "I" ∈ zWs := qt_4 _ (List.mem_of_getElem? (i := 84) rfl) rfl
theorem q_916 : Cond.fieldLink RX6 236 "StockLinesModel" "one" "I" ∈ zWs := qt_4 _ (List.mem_of_getElem? (i := 85) rfl) rfl
theorem q_917 : Cond.fieldLink RX6 239 "StockLinesModel" "other" "I" ∈ zWs := qt_4 _ (List.mem_of_getElem? (i := 86) rfl) rfl
theorem q_918 : Cond.methodLink RX6 242 yX6_takesDigits ∈ zWs := qt_5 _ (List.mem_of_getElem? (i := 199) rfl) rfl
theorem q_919 : Cond.instanceMethod yX6_takesDigits ∈ zWs := qt_5 _ (List.mem_of_getElem? (i := 201) rfl) rfl
theorem q_920 : Cond.selects RX6 yX6_takesDigits yX6_takesDigits ∈ zWs := qp_5 _ (List.mem_of_getElem? (i := 4) rfl)
theorem q_921 : Cond.code yX6_takesDigits cX6_takesDigits 1 (some .boolean) ∈ zWs := qt_5 _ (List.mem_of_getElem? (i := 202) rfl) rfl
theorem q_922 : Cond.methodLink RX6 230 yX6_isDigit ∈ zWs := qt_5 _ (List.mem_of_getElem? (i := 203) rfl) rfl
theorem q_923 : Cond.instanceMethod yX6_isDigit ∈ zWs := qt_5 _ (List.mem_of_getElem? (i := 205) rfl) rfl
theorem q_924 : Cond.selects RX6 yX6_isDigit yX6_isDigit ∈ zWs := qp_5 _ (List.mem_of_getElem? (i := 5) rfl)
theorem q_925 : Cond.code yX6_isDigit cX6_isDigit 3 (some .boolean) ∈ zWs := qt_5 _ (List.mem_of_getElem? (i := 206) rfl) rfl
theorem q_926 : Cond.methodLink RX6 233 yX6_digit ∈ zWs := qt_5 _ (List.mem_of_getElem? (i := 207) rfl) rfl
theorem q_927 : Cond.instanceMethod yX6_digit ∈ zWs := qt_5 _ (List.mem_of_getElem? (i := 209) rfl) rfl
theorem q_928 : Cond.selects RX6 yX6_digit yX6_digit ∈ zWs := qp_5 _ (List.mem_of_getElem? (i := 6) rfl)
theorem q_929 : Cond.code yX6_digit cX6_digit 2 (some .int) ∈ zWs := qt_5 _ (List.mem_of_getElem? (i := 210) rfl) rfl
theorem q_930 : Cond.methodLink RX6 248 yX6_makes ∈ zWs := qt_5 _ (List.mem_of_getElem? (i := 211) rfl) rfl
theorem q_931 : Cond.instanceMethod yX6_makes ∈ zWs := qt_5 _ (List.mem_of_getElem? (i := 213) rfl) rfl
theorem q_932 : Cond.selects RX6 yX6_makes yX6_makes ∈ zWs := qp_5 _ (List.mem_of_getElem? (i := 7) rfl)
theorem q_933 : Cond.code yX6_makes cX6_makes 3 (some .boolean) ∈ zWs := qt_5 _ (List.mem_of_getElem? (i := 214) rfl) rfl
theorem q_934 : Cond.methodLink RL 168 yL_undo ∈ zWs := qt_4 _ (List.mem_of_getElem? (i := 54) rfl) rfl
theorem q_935 : Cond.static yL_undo ∈ zWs := qt_4 _ (List.mem_of_getElem? (i := 55) rfl) rfl
theorem q_936 : Cond.codeWith yL_undo cL_undo 3 (some .int) [(0, 8, 11, 25)] ∈ zWs := qt_4 _ (List.mem_of_getElem? (i := 56) rfl) rfl
theorem q_937 : Cond.methodLink RL 77 yX5_undo ∈ zWs := qt_4 _ (List.mem_of_getElem? (i := 57) rfl) rfl
theorem q_938 : Cond.instanceMethod yX5_undo ∈ zWs := qt_4 _ (List.mem_of_getElem? (i := 58) rfl) rfl
theorem q_939 : Cond.selects RX5 yX5_undo yX5_undo ∈ zWs := qt_4 _ (List.mem_of_getElem? (i := 59) rfl) rfl
theorem q_940 : Cond.code yX5_undo cX5_undo 1 (some .int) ∈ zWs := qt_4 _ (List.mem_of_getElem? (i := 60) rfl) rfl
theorem q_941 : Cond.methodLink RL 170 yX6_undo ∈ zWs := qt_4 _ (List.mem_of_getElem? (i := 127) rfl) rfl
theorem q_942 : Cond.instanceMethod yX6_undo ∈ zWs := qt_4 _ (List.mem_of_getElem? (i := 128) rfl) rfl
theorem q_943 : Cond.selects RX6 yX6_undo yX6_undo ∈ zWs := qt_4 _ (List.mem_of_getElem? (i := 129) rfl) rfl
theorem q_944 : Cond.code yX6_undo cX6_undo 2 (some .int) ∈ zWs := qt_4 _ (List.mem_of_getElem? (i := 130) rfl) rfl
theorem q_945 : Cond.methodLink RL 171 yX5_digest ∈ zWs := qt_2 _ (List.mem_of_getElem? (i := 219) rfl) rfl
theorem q_946 : Cond.instanceMethod yX5_digest ∈ zWs := qt_2 _ (List.mem_of_getElem? (i := 220) rfl) rfl
theorem q_947 : Cond.selects RX5 yX5_digest yX5_digest ∈ zWs := qt_2 _ (List.mem_of_getElem? (i := 221) rfl) rfl
theorem q_948 : Cond.code yX5_digest cX5_digest 5 (some .long) ∈ zWs := qt_2 _ (List.mem_of_getElem? (i := 222) rfl) rfl
theorem q_949 : Cond.constantLong RX5 199 (111073) ∈ zWs := qt_2 _ (List.mem_of_getElem? (i := 223) rfl) rfl
theorem q_950 : Cond.constantLong RX5 201 (31) ∈ zWs := qt_2 _ (List.mem_of_getElem? (i := 224) rfl) rfl
theorem q_951 : Cond.methodLink RX5 203 yX5_value ∈ zWs := qt_2 _ (List.mem_of_getElem? (i := 225) rfl) rfl
theorem q_952 : Cond.methodLink RX5 206 yX5_player ∈ zWs := qt_3 _ (List.mem_of_getElem? (i := 61) rfl) rfl
theorem q_953 : Cond.methodLink RX5 210 yX5_company ∈ zWs := qt_3 _ (List.mem_of_getElem? (i := 84) rfl) rfl
theorem q_954 : Cond.methodLink RX5 213 yX5_track ∈ zWs := qt_3 _ (List.mem_of_getElem? (i := 95) rfl) rfl
theorem q_955 : Cond.methodLink RX5 216 yX5_town ∈ zWs := qt_3 _ (List.mem_of_getElem? (i := 100) rfl) rfl
theorem q_956 : Cond.methodLink RL 175 yX6_digest ∈ zWs := qt_5 _ (List.mem_of_getElem? (i := 215) rfl) rfl
theorem q_957 : Cond.instanceMethod yX6_digest ∈ zWs := qt_5 _ (List.mem_of_getElem? (i := 216) rfl) rfl
theorem q_958 : Cond.selects RX6 yX6_digest yX6_digest ∈ zWs := qt_5 _ (List.mem_of_getElem? (i := 217) rfl) rfl
theorem q_959 : Cond.code yX6_digest cX6_digest 3 (some .long) ∈ zWs := qt_5 _ (List.mem_of_getElem? (i := 218) rfl) rfl
theorem q_960 : Cond.constantLong RX6 257 (3583) ∈ zWs := qt_5 _ (List.mem_of_getElem? (i := 219) rfl) rfl
theorem q_961 : Cond.fieldLink RX6 253 "StockLinesModel" "hash" "J" ∈ zWs := qt_4 _ (List.mem_of_getElem? (i := 87) rfl) rfl
theorem q_962 : Cond.methodLink RX6 259 yX6_mix ∈ zWs := qt_5 _ (List.mem_of_getElem? (i := 220) rfl) rfl
theorem q_963 : Cond.instanceMethod yX6_mix ∈ zWs := qt_5 _ (List.mem_of_getElem? (i := 222) rfl) rfl
theorem q_964 : Cond.selects RX6 yX6_mix yX6_mix ∈ zWs := qp_5 _ (List.mem_of_getElem? (i := 8) rfl)
theorem q_965 : Cond.code yX6_mix cX6_mix 2 none ∈ zWs := qt_5 _ (List.mem_of_getElem? (i := 223) rfl) rfl
theorem q_966 : Cond.constantLong RX6 251 (31) ∈ zWs := qt_5 _ (List.mem_of_getElem? (i := 224) rfl) rfl
theorem qf_X0_0 : Cond.laysFinal RX0 "StockLines$Company" "held" "[I" ∈ zWs := qt_1 _ (List.mem_of_getElem? (i := 109) rfl) rfl
theorem qf_X0_1 : Cond.lays RX0 "StockLines$Company" "open" "Z" ∈ zWs := qt_1 _ (List.mem_of_getElem? (i := 111) rfl) rfl
theorem qf_X0_2 : Cond.lays RX0 "StockLines$Company" "home" "I" ∈ zWs := qt_1 _ (List.mem_of_getElem? (i := 113) rfl) rfl
theorem qf_X0_3 : Cond.lays RX0 "StockLines$Company" "cash" "I" ∈ zWs := qt_1 _ (List.mem_of_getElem? (i := 115) rfl) rfl
theorem qf_X0_4 : Cond.lays RX0 "StockLines$Company" "step" "I" ∈ zWs := qt_1 _ (List.mem_of_getElem? (i := 117) rfl) rfl
theorem qf_X0_5 : Cond.lays RX0 "StockLines$Company" "stops" "I" ∈ zWs := qt_1 _ (List.mem_of_getElem? (i := 119) rfl) rfl
theorem qf_X0_6 : Cond.lays RX0 "StockLines$Company" "president" "I" ∈ zWs := qt_1 _ (List.mem_of_getElem? (i := 121) rfl) rfl
theorem qf_X0_7 : Cond.lays RX0 "StockLines$Company" "latest" "I" ∈ zWs := qt_1 _ (List.mem_of_getElem? (i := 123) rfl) rfl
theorem inlX0 : ∀ w ∈ u_ws RX0 TX0 8, w ∈ zWs := by
  show ∀ w ∈ [Cond.laysFinal RX0 "StockLines$Company" "held" "[I", Cond.lays RX0 "StockLines$Company" "open" "Z", Cond.lays RX0 "StockLines$Company" "home" "I", Cond.lays RX0 "StockLines$Company" "cash" "I", Cond.lays RX0 "StockLines$Company" "step" "I", Cond.lays RX0 "StockLines$Company" "stops" "I", Cond.lays RX0 "StockLines$Company" "president" "I", Cond.lays RX0 "StockLines$Company" "latest" "I"], w ∈ zWs
  exact List.forall_mem_cons.mpr ⟨qf_X0_0, List.forall_mem_cons.mpr ⟨qf_X0_1, List.forall_mem_cons.mpr ⟨qf_X0_2, List.forall_mem_cons.mpr ⟨qf_X0_3, List.forall_mem_cons.mpr ⟨qf_X0_4, List.forall_mem_cons.mpr ⟨qf_X0_5, List.forall_mem_cons.mpr ⟨qf_X0_6, List.forall_mem_cons.mpr ⟨qf_X0_7, fun _ h => absurd h List.not_mem_nil⟩⟩⟩⟩⟩⟩⟩⟩
theorem qf_X1_0 : Cond.laysFinal RX1 "StockLines$Game" "search" "LStockLines$RouteSearch;" ∈ zWs := qt_1 _ (List.mem_of_getElem? (i := 165) rfl) rfl
theorem qf_X1_1 : Cond.laysFinal RX1 "StockLines$Game" "land" "LStockLines$Land;" ∈ zWs := qt_1 _ (List.mem_of_getElem? (i := 167) rfl) rfl
theorem qf_X1_2 : Cond.laysFinal RX1 "StockLines$Game" "companies" "[LStockLines$Company;" ∈ zWs := qt_1 _ (List.mem_of_getElem? (i := 169) rfl) rfl
theorem qf_X1_3 : Cond.laysFinal RX1 "StockLines$Game" "cash" "[I" ∈ zWs := qt_1 _ (List.mem_of_getElem? (i := 171) rfl) rfl
theorem qf_X1_4 : Cond.laysFinal RX1 "StockLines$Game" "order" "[I" ∈ zWs := qt_1 _ (List.mem_of_getElem? (i := 173) rfl) rfl
theorem qf_X1_5 : Cond.lays RX1 "StockLines$Game" "orderLength" "I" ∈ zWs := qt_1 _ (List.mem_of_getElem? (i := 175) rfl) rfl
theorem qf_X1_6 : Cond.lays RX1 "StockLines$Game" "orderPlace" "I" ∈ zWs := qt_1 _ (List.mem_of_getElem? (i := 177) rfl) rfl
theorem qf_X1_7 : Cond.lays RX1 "StockLines$Game" "extended" "Z" ∈ zWs := qt_1 _ (List.mem_of_getElem? (i := 179) rfl) rfl
theorem qf_X1_8 : Cond.lays RX1 "StockLines$Game" "players" "I" ∈ zWs := qt_1 _ (List.mem_of_getElem? (i := 181) rfl) rfl
theorem qf_X1_9 : Cond.lays RX1 "StockLines$Game" "turn" "I" ∈ zWs := qt_1 _ (List.mem_of_getElem? (i := 183) rfl) rfl
theorem qf_X1_10 : Cond.lays RX1 "StockLines$Game" "passed" "I" ∈ zWs := qt_1 _ (List.mem_of_getElem? (i := 185) rfl) rfl
theorem qf_X1_11 : Cond.lays RX1 "StockLines$Game" "operating" "Z" ∈ zWs := qt_1 _ (List.mem_of_getElem? (i := 187) rfl) rfl
theorem qf_X1_12 : Cond.lays RX1 "StockLines$Game" "phasesOver" "I" ∈ zWs := qt_1 _ (List.mem_of_getElem? (i := 189) rfl) rfl
theorem qf_X1_13 : Cond.lays RX1 "StockLines$Game" "bank" "I" ∈ zWs := qt_1 _ (List.mem_of_getElem? (i := 191) rfl) rfl
theorem qf_X1_14 : Cond.lays RX1 "StockLines$Game" "closed" "I" ∈ zWs := qt_1 _ (List.mem_of_getElem? (i := 193) rfl) rfl
theorem inlX1 : ∀ w ∈ u_ws RX1 TX1 15, w ∈ zWs := by
  show ∀ w ∈ [Cond.laysFinal RX1 "StockLines$Game" "search" "LStockLines$RouteSearch;", Cond.laysFinal RX1 "StockLines$Game" "land" "LStockLines$Land;", Cond.laysFinal RX1 "StockLines$Game" "companies" "[LStockLines$Company;", Cond.laysFinal RX1 "StockLines$Game" "cash" "[I", Cond.laysFinal RX1 "StockLines$Game" "order" "[I", Cond.lays RX1 "StockLines$Game" "orderLength" "I", Cond.lays RX1 "StockLines$Game" "orderPlace" "I", Cond.lays RX1 "StockLines$Game" "extended" "Z", Cond.lays RX1 "StockLines$Game" "players" "I", Cond.lays RX1 "StockLines$Game" "turn" "I", Cond.lays RX1 "StockLines$Game" "passed" "I", Cond.lays RX1 "StockLines$Game" "operating" "Z", Cond.lays RX1 "StockLines$Game" "phasesOver" "I", Cond.lays RX1 "StockLines$Game" "bank" "I", Cond.lays RX1 "StockLines$Game" "closed" "I"], w ∈ zWs
  exact List.forall_mem_cons.mpr ⟨qf_X1_0, List.forall_mem_cons.mpr ⟨qf_X1_1, List.forall_mem_cons.mpr ⟨qf_X1_2, List.forall_mem_cons.mpr ⟨qf_X1_3, List.forall_mem_cons.mpr ⟨qf_X1_4, List.forall_mem_cons.mpr ⟨qf_X1_5, List.forall_mem_cons.mpr ⟨qf_X1_6, List.forall_mem_cons.mpr ⟨qf_X1_7, List.forall_mem_cons.mpr ⟨qf_X1_8, List.forall_mem_cons.mpr ⟨qf_X1_9, List.forall_mem_cons.mpr ⟨qf_X1_10, List.forall_mem_cons.mpr ⟨qf_X1_11, List.forall_mem_cons.mpr ⟨qf_X1_12, List.forall_mem_cons.mpr ⟨qf_X1_13, List.forall_mem_cons.mpr ⟨qf_X1_14, fun _ h => absurd h List.not_mem_nil⟩⟩⟩⟩⟩⟩⟩⟩⟩⟩⟩⟩⟩⟩⟩
theorem qf_X2_0 : Cond.laysFinal RX2 "StockLines$Land" "worth" "[I" ∈ zWs := qt_1 _ (List.mem_of_getElem? (i := 78) rfl) rfl
theorem qf_X2_1 : Cond.laysFinal RX2 "StockLines$Land" "level" "[[I" ∈ zWs := qt_1 _ (List.mem_of_getElem? (i := 80) rfl) rfl
theorem inlX2 : ∀ w ∈ u_ws RX2 TX2 2, w ∈ zWs := by
  show ∀ w ∈ [Cond.laysFinal RX2 "StockLines$Land" "worth" "[I", Cond.laysFinal RX2 "StockLines$Land" "level" "[[I"], w ∈ zWs
  exact List.forall_mem_cons.mpr ⟨qf_X2_0, List.forall_mem_cons.mpr ⟨qf_X2_1, fun _ h => absurd h List.not_mem_nil⟩⟩
theorem qf_X3_0 : Cond.laysFinal RX3 "StockLines$RouteSearch" "distance" "[I" ∈ zWs := qt_1 _ (List.mem_of_getElem? (i := 39) rfl) rfl
theorem qf_X3_1 : Cond.laysFinal RX3 "StockLines$RouteSearch" "row" "[I" ∈ zWs := qt_1 _ (List.mem_of_getElem? (i := 41) rfl) rfl
theorem qf_X3_2 : Cond.laysFinal RX3 "StockLines$RouteSearch" "best" "[I" ∈ zWs := qt_1 _ (List.mem_of_getElem? (i := 43) rfl) rfl
theorem qf_X3_3 : Cond.lays RX3 "StockLines$RouteSearch" "land" "LStockLines$Land;" ∈ zWs := qt_1 _ (List.mem_of_getElem? (i := 45) rfl) rfl
theorem qf_X3_4 : Cond.lays RX3 "StockLines$RouteSearch" "homeBit" "I" ∈ zWs := qt_1 _ (List.mem_of_getElem? (i := 47) rfl) rfl
theorem qf_X3_5 : Cond.lays RX3 "StockLines$RouteSearch" "stops" "I" ∈ zWs := qt_1 _ (List.mem_of_getElem? (i := 49) rfl) rfl
theorem qf_X3_6 : Cond.lays RX3 "StockLines$RouteSearch" "bestLength" "I" ∈ zWs := qt_1 _ (List.mem_of_getElem? (i := 51) rfl) rfl
theorem qf_X3_7 : Cond.lays RX3 "StockLines$RouteSearch" "bestIncome" "I" ∈ zWs := qt_1 _ (List.mem_of_getElem? (i := 53) rfl) rfl
theorem inlX3 : ∀ w ∈ u_ws RX3 TX3 8, w ∈ zWs := by
  show ∀ w ∈ [Cond.laysFinal RX3 "StockLines$RouteSearch" "distance" "[I", Cond.laysFinal RX3 "StockLines$RouteSearch" "row" "[I", Cond.laysFinal RX3 "StockLines$RouteSearch" "best" "[I", Cond.lays RX3 "StockLines$RouteSearch" "land" "LStockLines$Land;", Cond.lays RX3 "StockLines$RouteSearch" "homeBit" "I", Cond.lays RX3 "StockLines$RouteSearch" "stops" "I", Cond.lays RX3 "StockLines$RouteSearch" "bestLength" "I", Cond.lays RX3 "StockLines$RouteSearch" "bestIncome" "I"], w ∈ zWs
  exact List.forall_mem_cons.mpr ⟨qf_X3_0, List.forall_mem_cons.mpr ⟨qf_X3_1, List.forall_mem_cons.mpr ⟨qf_X3_2, List.forall_mem_cons.mpr ⟨qf_X3_3, List.forall_mem_cons.mpr ⟨qf_X3_4, List.forall_mem_cons.mpr ⟨qf_X3_5, List.forall_mem_cons.mpr ⟨qf_X3_6, List.forall_mem_cons.mpr ⟨qf_X3_7, fun _ h => absurd h List.not_mem_nil⟩⟩⟩⟩⟩⟩⟩⟩
theorem qf_X4_0 : Cond.laysFinal RX4 "StockLines$Script" "signs" "[I" ∈ zWs := qt_1 _ (List.mem_of_getElem? (i := 206) rfl) rfl
theorem qf_X4_1 : Cond.lays RX4 "StockLines$Script" "length" "I" ∈ zWs := qt_1 _ (List.mem_of_getElem? (i := 208) rfl) rfl
theorem inlX4 : ∀ w ∈ u_ws RX4 TX4 2, w ∈ zWs := by
  show ∀ w ∈ [Cond.laysFinal RX4 "StockLines$Script" "signs" "[I", Cond.lays RX4 "StockLines$Script" "length" "I"], w ∈ zWs
  exact List.forall_mem_cons.mpr ⟨qf_X4_0, List.forall_mem_cons.mpr ⟨qf_X4_1, fun _ h => absurd h List.not_mem_nil⟩⟩
theorem qf_X5_0 : Cond.laysFinal RX5 "StockLines" "game" "LStockLines$Game;" ∈ zWs := qt_1 _ (List.mem_of_getElem? (i := 215) rfl) rfl
theorem qf_X5_1 : Cond.laysFinal RX5 "StockLines" "saved" "[LStockLines$Game;" ∈ zWs := qt_1 _ (List.mem_of_getElem? (i := 217) rfl) rfl
theorem qf_X5_2 : Cond.lays RX5 "StockLines" "savedCount" "I" ∈ zWs := qt_1 _ (List.mem_of_getElem? (i := 219) rfl) rfl
theorem qf_X5_3 : Cond.laysFinal RX5 "StockLines" "script" "LStockLines$Script;" ∈ zWs := qt_1 _ (List.mem_of_getElem? (i := 221) rfl) rfl
theorem inlX5 : ∀ w ∈ u_ws RX5 TX5 4, w ∈ zWs := by
  show ∀ w ∈ [Cond.laysFinal RX5 "StockLines" "game" "LStockLines$Game;", Cond.laysFinal RX5 "StockLines" "saved" "[LStockLines$Game;", Cond.lays RX5 "StockLines" "savedCount" "I", Cond.laysFinal RX5 "StockLines" "script" "LStockLines$Script;"], w ∈ zWs
  exact List.forall_mem_cons.mpr ⟨qf_X5_0, List.forall_mem_cons.mpr ⟨qf_X5_1, List.forall_mem_cons.mpr ⟨qf_X5_2, List.forall_mem_cons.mpr ⟨qf_X5_3, fun _ h => absurd h List.not_mem_nil⟩⟩⟩⟩
theorem qf_X6_0 : Cond.laysFinal RX6 "StockLinesModel" "now" "[I" ∈ zWs := qt_4 _ (List.mem_of_getElem? (i := 88) rfl) rfl
theorem qf_X6_1 : Cond.laysFinal RX6 "StockLinesModel" "past" "[I" ∈ zWs := qt_4 _ (List.mem_of_getElem? (i := 90) rfl) rfl
theorem qf_X6_2 : Cond.lays RX6 "StockLinesModel" "saved" "I" ∈ zWs := qt_4 _ (List.mem_of_getElem? (i := 92) rfl) rfl
theorem qf_X6_3 : Cond.laysFinal RX6 "StockLinesModel" "text" "[I" ∈ zWs := qt_4 _ (List.mem_of_getElem? (i := 94) rfl) rfl
theorem qf_X6_4 : Cond.lays RX6 "StockLinesModel" "length" "I" ∈ zWs := qt_4 _ (List.mem_of_getElem? (i := 96) rfl) rfl
theorem qf_X6_5 : Cond.lays RX6 "StockLinesModel" "refusal" "I" ∈ zWs := qt_4 _ (List.mem_of_getElem? (i := 98) rfl) rfl
theorem qf_X6_6 : Cond.laysFinal RX6 "StockLinesModel" "path" "[I" ∈ zWs := qt_4 _ (List.mem_of_getElem? (i := 100) rfl) rfl
theorem qf_X6_7 : Cond.laysFinal RX6 "StockLinesModel" "sums" "[I" ∈ zWs := qt_4 _ (List.mem_of_getElem? (i := 102) rfl) rfl
theorem qf_X6_8 : Cond.laysFinal RX6 "StockLinesModel" "taken" "[I" ∈ zWs := qt_4 _ (List.mem_of_getElem? (i := 104) rfl) rfl
theorem qf_X6_9 : Cond.laysFinal RX6 "StockLinesModel" "best" "[I" ∈ zWs := qt_4 _ (List.mem_of_getElem? (i := 106) rfl) rfl
theorem qf_X6_10 : Cond.lays RX6 "StockLinesModel" "bestMany" "I" ∈ zWs := qt_4 _ (List.mem_of_getElem? (i := 108) rfl) rfl
theorem qf_X6_11 : Cond.lays RX6 "StockLinesModel" "bestSum" "I" ∈ zWs := qt_4 _ (List.mem_of_getElem? (i := 110) rfl) rfl
theorem qf_X6_12 : Cond.lays RX6 "StockLinesModel" "at" "I" ∈ zWs := qt_4 _ (List.mem_of_getElem? (i := 112) rfl) rfl
theorem qf_X6_13 : Cond.lays RX6 "StockLinesModel" "letter" "I" ∈ zWs := qt_4 _ (List.mem_of_getElem? (i := 114) rfl) rfl
theorem qf_X6_14 : Cond.lays RX6 "StockLinesModel" "one" "I" ∈ zWs := qt_4 _ (List.mem_of_getElem? (i := 116) rfl) rfl
theorem qf_X6_15 : Cond.lays RX6 "StockLinesModel" "other" "I" ∈ zWs := qt_4 _ (List.mem_of_getElem? (i := 118) rfl) rfl
theorem qf_X6_16 : Cond.lays RX6 "StockLinesModel" "hash" "J" ∈ zWs := qt_4 _ (List.mem_of_getElem? (i := 120) rfl) rfl
theorem inlX6 : ∀ w ∈ u_ws RX6 TX6 17, w ∈ zWs := by
  show ∀ w ∈ [Cond.laysFinal RX6 "StockLinesModel" "now" "[I", Cond.laysFinal RX6 "StockLinesModel" "past" "[I", Cond.lays RX6 "StockLinesModel" "saved" "I", Cond.laysFinal RX6 "StockLinesModel" "text" "[I", Cond.lays RX6 "StockLinesModel" "length" "I", Cond.lays RX6 "StockLinesModel" "refusal" "I", Cond.laysFinal RX6 "StockLinesModel" "path" "[I", Cond.laysFinal RX6 "StockLinesModel" "sums" "[I", Cond.laysFinal RX6 "StockLinesModel" "taken" "[I", Cond.laysFinal RX6 "StockLinesModel" "best" "[I", Cond.lays RX6 "StockLinesModel" "bestMany" "I", Cond.lays RX6 "StockLinesModel" "bestSum" "I", Cond.lays RX6 "StockLinesModel" "at" "I", Cond.lays RX6 "StockLinesModel" "letter" "I", Cond.lays RX6 "StockLinesModel" "one" "I", Cond.lays RX6 "StockLinesModel" "other" "I", Cond.lays RX6 "StockLinesModel" "hash" "J"], w ∈ zWs
  exact List.forall_mem_cons.mpr ⟨qf_X6_0, List.forall_mem_cons.mpr ⟨qf_X6_1, List.forall_mem_cons.mpr ⟨qf_X6_2, List.forall_mem_cons.mpr ⟨qf_X6_3, List.forall_mem_cons.mpr ⟨qf_X6_4, List.forall_mem_cons.mpr ⟨qf_X6_5, List.forall_mem_cons.mpr ⟨qf_X6_6, List.forall_mem_cons.mpr ⟨qf_X6_7, List.forall_mem_cons.mpr ⟨qf_X6_8, List.forall_mem_cons.mpr ⟨qf_X6_9, List.forall_mem_cons.mpr ⟨qf_X6_10, List.forall_mem_cons.mpr ⟨qf_X6_11, List.forall_mem_cons.mpr ⟨qf_X6_12, List.forall_mem_cons.mpr ⟨qf_X6_13, List.forall_mem_cons.mpr ⟨qf_X6_14, List.forall_mem_cons.mpr ⟨qf_X6_15, List.forall_mem_cons.mpr ⟨qf_X6_16, fun _ h => absurd h List.not_mem_nil⟩⟩⟩⟩⟩⟩⟩⟩⟩⟩⟩⟩⟩⟩⟩⟩⟩
end
section
/-! ABSTRACT HEAPS: ids to cells; references inside are ids too; the cell of id a lies at B + a; an array's class is a number, cA gives its id -/
abbrev zH : Type := Nat → Option va_E
def zset (h : zH) (a : Nat) (e : va_E) : zH := fun q => if q = a then some e else h q
def zv (B : Nat) (v : Value) : Value := match v with
  | .ref a => .ref (B + a)
  | v => v
def zA (B : Nat) (x : vp_A) : vp_A := match x with
  | (n, .inl f) => (n, .inl f)
  | (n, .inr (.inl f)) => (n, .inr (.inl f))
  | (n, .inr (.inr (.inl f))) => (n, .inr (.inr (.inl f)))
  | (n, .inr (.inr (.inr (.inl f)))) => (n, .inr (.inr (.inr (.inl f))))
  | (n, .inr (.inr (.inr (.inr f)))) => (n, .inr (.inr (.inr (.inr (fun j => (f j).map (fun a => B + a))))))
def ze (B : Nat) (cA : Nat → ClassId) (e : va_E) : va_E := match e with
  | .inl (c, x) => .inl (cA c, zA B x)
  | .inr (c, fs) => .inr (c, fs.map (zv B))
def zP (B : Nat) (D : va_G) (cA : Nat → ClassId) (h : zH) (H : Heap) : Prop := ∀ (a : Nat) (e : va_E), h a = some e → va_at D vwCl (B + a, ze B cA e) H
abbrev ztys (cA : Nat → ClassId) : List (ClassId × FieldType) := [(cA 0, .int), (cA 1, .long), (cA 2, .array .int), (cA 3, .object "StockLines$Company"), (cA 4, .object "StockLines$Game")]
def zty (k : Nat) : FieldType := match k with
  | 0 => .int
  | 1 => .long
  | 2 => .array .int
  | 3 => .object "StockLines$Company"
  | _ => .object "StockLines$Game"
theorem ztys_at (cA : Nat → ClassId) {k : Nat} (hk : k < 5) : (ztys cA)[k]? = some (cA k, zty k) := by
  match k, hk with
  | 0, _ => rfl
  | 1, _ => rfl
  | 2, _ => rfl
  | 3, _ => rfl
  | 4, _ => rfl
theorem zset_s {h : zH} {a : Nat} {e : va_E} : zset h a e a = some e := if_pos rfl
theorem zset_n {h : zH} {a b : Nat} {e : va_E} (hb : b ≠ a) : zset h a e b = h b := if_neg hb
theorem zP.one {B : Nat} {D : va_G} {cA : Nat → ClassId} {h : zH} {H : Heap} (hP : zP B D cA h H) {a : Nat} {e : va_E} (ha : h a = some e) : va_P D vwCl [(B + a, ze B cA e)] H := by
  intro k q hk
  have hz : k < 1 := (List.getElem?_eq_some_iff.mp hk).1
  rw [show k = 0 by omega] at hk
  cases hk
  exact hP a e ha
theorem zP.kept {B : Nat} {D : va_G} {cA : Nat → ClassId} {h : zH} {H H1 : Heap} (hP : zP B D cA h H) (hq : ∀ q : Nat, q < H.size → H1[q]? = H[q]?) : zP B D cA h H1 := fun a e ha => (hP a e ha).kept (hq _ (hP a e ha).lt)
theorem zP.set {B : Nat} {D : va_G} {cA : Nat → ClassId} {h : zH} {H H1 : Heap} (hP : zP B D cA h H) {a : Nat} {e : va_E} (he : va_at D vwCl (B + a, ze B cA e) H1) (oq : ∀ q : Nat, q ≠ B + a → H1[q]? = H[q]?) : zP B D cA (zset h a e) H1 := by
  intro b e' hb
  by_cases hba : b = a
  · subst hba
    rw [zset_s] at hb
    cases hb
    exact he
  · rw [zset_n hba] at hb
    exact (hP b e' hb).kept (oq _ (by show B + b ≠ B + a; omega))
theorem zP.new {B : Nat} {D : va_G} {cA : Nat → ClassId} {h : zH} {H H1 : Heap} (hP : zP B D cA h H) {a : Nat} {e : va_E} (he : va_at D vwCl (B + a, ze B cA e) H1) (oq : ∀ q : Nat, q < H.size → H1[q]? = H[q]?) : zP B D cA (zset h a e) H1 := by
  intro b e' hb
  by_cases hba : b = a
  · subst hba
    rw [zset_s] at hb
    cases hb
    exact he
  · rw [zset_n hba] at hb
    exact (hP b e' hb).kept (oq _ (hP b e' hb).lt)
/-! what the abstract instructions read and write -/
def zO (h : zH) (a ci : Nat) : Option (List Value) := match h a with
  | some (.inr (c, fs)) => if c = ci then some fs else none
  | _ => none
def zgI (h : zH) (a ci k : Nat) : Option Int32 := match zO h a ci with
  | some fs => (match fs[k]? with
    | some (.int x) => some x
    | _ => none)
  | none => none
def zgL (h : zH) (a ci k : Nat) : Option Int64 := match zO h a ci with
  | some fs => (match fs[k]? with
    | some (.long x) => some x
    | _ => none)
  | none => none
def zgR (h : zH) (a ci k : Nat) : Option Nat := match zO h a ci with
  | some fs => (match fs[k]? with
    | some (.ref x) => some x
    | _ => none)
  | none => none
def zp (h : zH) (a ci k : Nat) (v : Value) : Option zH := match zO h a ci with
  | some fs => if k < fs.length then some (zset h a (.inr (ci, fs.set k v))) else none
  | none => none
def zIA (h : zH) (a : Nat) : Option (Nat × (Nat → Int32)) := match h a with
  | some (.inl (c, n, .inl f)) => if c = 0 then some (n, f) else none
  | _ => none
def zLA (h : zH) (a : Nat) : Option (Nat × (Nat → Int64)) := match h a with
  | some (.inl (c, n, .inr (.inl f))) => if c = 1 then some (n, f) else none
  | _ => none
def zRA (h : zH) (a c : Nat) : Option (Nat × (Nat → Option Nat)) := match h a with
  | some (.inl (c', n, .inr (.inr (.inr (.inr f))))) => if c' = c then some (n, f) else none
  | _ => none
def zai (h : zH) (a : Nat) (i : Int32) : Option Int32 := match zIA h a with
  | some (n, f) => if i < 0 ∨ n ≤ i.toNatClampNeg then none else some (f i.toNatClampNeg)
  | none => none
def zsi (h : zH) (a : Nat) (i x : Int32) : Option zH := match zIA h a with
  | some (n, f) => if i < 0 ∨ n ≤ i.toNatClampNeg then none else some (zset h a (.inl (0, n, .inl (upd f i.toNatClampNeg x))))
  | none => none
def zal (h : zH) (a : Nat) (i : Int32) : Option Int64 := match zLA h a with
  | some (n, f) => if i < 0 ∨ n ≤ i.toNatClampNeg then none else some (f i.toNatClampNeg)
  | none => none
def zsl (h : zH) (a : Nat) (i : Int32) (x : Int64) : Option zH := match zLA h a with
  | some (n, f) => if i < 0 ∨ n ≤ i.toNatClampNeg then none else some (zset h a (.inl (1, n, .inr (.inl (vp_updL f i.toNatClampNeg x)))))
  | none => none
def zar (h : zH) (a c : Nat) (i : Int32) : Option Nat := match zRA h a c with
  | some (n, f) => if i < 0 ∨ n ≤ i.toNatClampNeg then none else f i.toNatClampNeg
  | none => none
/-- an element of an array of references of kind c (3: of objects of class 0; 4: of class 1) -/
def zsr (h : zH) (a c ci : Nat) (i : Int32) (r : Nat) : Option zH := match zRA h a c with
  | some (n, f) => if i < 0 ∨ n ≤ i.toNatClampNeg then none else (match zO h r ci with
    | some _ => some (zset h a (.inl (c, n, .inr (.inr (.inr (.inr (va_up f i.toNatClampNeg (some r))))))))
    | none => none)
  | none => none
def zlen (h : zH) (a : Nat) : Option Int32 := match zIA h a with
  | some (n, _) => some (Int32.ofNat n)
  | none => none
def zcp (h : zH) (a : Nat) (sp : Int32) (b : Nat) (dp n : Int32) : Option zH := match zIA h a with
  | some (n0, f) => (match zIA h b with
    | some (n1, g) => if sp < 0 ∨ dp < 0 ∨ n < 0 ∨ n0 < sp.toNatClampNeg + n.toNatClampNeg ∨ n1 < dp.toNatClampNeg + n.toNatClampNeg then none else some (zset h b (.inl (0, n1, .inl (va_cpy f g sp.toNatClampNeg dp.toNatClampNeg n.toNatClampNeg))))
    | none => none)
  | none => none
def zdiv (x y : Int32) : Option Int32 := if y = 0 then none else some (x / y)
def zrem (x y : Int32) : Int32 := x - x / y * y
/-- a truth value -/
def zB (x : Int32) : Option Int32 := if x = 0 ∨ x = 1 then some x else none
/-- the receiver of a call is an object of class ci -/
def zrc {β : Type} (h : zH) (a ci : Nat) (o : Option β) : Option β := match zO h a ci with
  | some _ => o
  | none => none
def zlet {α β : Type} (x : α) (F : α → Option β) : Option β := F x
def zb2 {α β γ : Type} (o : Option (α × β)) (F : α → β → Option γ) : Option γ := o.bind (fun u => F u.1 u.2)

def zfix1 {A1 β : Type} (F : (A1 → Option β) → A1 → Option β) : Nat → A1 → Option β
  | 0, _ => none
  | n + 1, a1 => F (zfix1 F n) a1
theorem zfix1_s {A1 β : Type} {F : (A1 → Option β) → A1 → Option β} {n : Nat} {a1 : A1} : zfix1 F (n + 1) a1 = F (zfix1 F n) a1 := rfl
def zfix2 {A1 A2 β : Type} (F : (A1 → A2 → Option β) → A1 → A2 → Option β) : Nat → A1 → A2 → Option β
  | 0, _, _ => none
  | n + 1, a1, a2 => F (zfix2 F n) a1 a2
theorem zfix2_s {A1 A2 β : Type} {F : (A1 → A2 → Option β) → A1 → A2 → Option β} {n : Nat} {a1 : A1} {a2 : A2} : zfix2 F (n + 1) a1 a2 = F (zfix2 F n) a1 a2 := rfl
def zfix3 {A1 A2 A3 β : Type} (F : (A1 → A2 → A3 → Option β) → A1 → A2 → A3 → Option β) : Nat → A1 → A2 → A3 → Option β
  | 0, _, _, _ => none
  | n + 1, a1, a2, a3 => F (zfix3 F n) a1 a2 a3
theorem zfix3_s {A1 A2 A3 β : Type} {F : (A1 → A2 → A3 → Option β) → A1 → A2 → A3 → Option β} {n : Nat} {a1 : A1} {a2 : A2} {a3 : A3} : zfix3 F (n + 1) a1 a2 a3 = F (zfix3 F n) a1 a2 a3 := rfl
def zfix4 {A1 A2 A3 A4 β : Type} (F : (A1 → A2 → A3 → A4 → Option β) → A1 → A2 → A3 → A4 → Option β) : Nat → A1 → A2 → A3 → A4 → Option β
  | 0, _, _, _, _ => none
  | n + 1, a1, a2, a3, a4 => F (zfix4 F n) a1 a2 a3 a4
theorem zfix4_s {A1 A2 A3 A4 β : Type} {F : (A1 → A2 → A3 → A4 → Option β) → A1 → A2 → A3 → A4 → Option β} {n : Nat} {a1 : A1} {a2 : A2} {a3 : A3} {a4 : A4} : zfix4 F (n + 1) a1 a2 a3 a4 = F (zfix4 F n) a1 a2 a3 a4 := rfl
def zfix5 {A1 A2 A3 A4 A5 β : Type} (F : (A1 → A2 → A3 → A4 → A5 → Option β) → A1 → A2 → A3 → A4 → A5 → Option β) : Nat → A1 → A2 → A3 → A4 → A5 → Option β
  | 0, _, _, _, _, _ => none
  | n + 1, a1, a2, a3, a4, a5 => F (zfix5 F n) a1 a2 a3 a4 a5
theorem zfix5_s {A1 A2 A3 A4 A5 β : Type} {F : (A1 → A2 → A3 → A4 → A5 → Option β) → A1 → A2 → A3 → A4 → A5 → Option β} {n : Nat} {a1 : A1} {a2 : A2} {a3 : A3} {a4 : A4} {a5 : A5} : zfix5 F (n + 1) a1 a2 a3 a4 a5 = F (zfix5 F n) a1 a2 a3 a4 a5 := rfl
def zfix6 {A1 A2 A3 A4 A5 A6 β : Type} (F : (A1 → A2 → A3 → A4 → A5 → A6 → Option β) → A1 → A2 → A3 → A4 → A5 → A6 → Option β) : Nat → A1 → A2 → A3 → A4 → A5 → A6 → Option β
  | 0, _, _, _, _, _, _ => none
  | n + 1, a1, a2, a3, a4, a5, a6 => F (zfix6 F n) a1 a2 a3 a4 a5 a6
theorem zfix6_s {A1 A2 A3 A4 A5 A6 β : Type} {F : (A1 → A2 → A3 → A4 → A5 → A6 → Option β) → A1 → A2 → A3 → A4 → A5 → A6 → Option β} {n : Nat} {a1 : A1} {a2 : A2} {a3 : A3} {a4 : A4} {a5 : A5} {a6 : A6} : zfix6 F (n + 1) a1 a2 a3 a4 a5 a6 = F (zfix6 F n) a1 a2 a3 a4 a5 a6 := rfl
def zfix7 {A1 A2 A3 A4 A5 A6 A7 β : Type} (F : (A1 → A2 → A3 → A4 → A5 → A6 → A7 → Option β) → A1 → A2 → A3 → A4 → A5 → A6 → A7 → Option β) : Nat → A1 → A2 → A3 → A4 → A5 → A6 → A7 → Option β
  | 0, _, _, _, _, _, _, _ => none
  | n + 1, a1, a2, a3, a4, a5, a6, a7 => F (zfix7 F n) a1 a2 a3 a4 a5 a6 a7
theorem zfix7_s {A1 A2 A3 A4 A5 A6 A7 β : Type} {F : (A1 → A2 → A3 → A4 → A5 → A6 → A7 → Option β) → A1 → A2 → A3 → A4 → A5 → A6 → A7 → Option β} {n : Nat} {a1 : A1} {a2 : A2} {a3 : A3} {a4 : A4} {a5 : A5} {a6 : A6} {a7 : A7} : zfix7 F (n + 1) a1 a2 a3 a4 a5 a6 a7 = F (zfix7 F n) a1 a2 a3 a4 a5 a6 a7 := rfl
def zfix8 {A1 A2 A3 A4 A5 A6 A7 A8 β : Type} (F : (A1 → A2 → A3 → A4 → A5 → A6 → A7 → A8 → Option β) → A1 → A2 → A3 → A4 → A5 → A6 → A7 → A8 → Option β) : Nat → A1 → A2 → A3 → A4 → A5 → A6 → A7 → A8 → Option β
  | 0, _, _, _, _, _, _, _, _ => none
  | n + 1, a1, a2, a3, a4, a5, a6, a7, a8 => F (zfix8 F n) a1 a2 a3 a4 a5 a6 a7 a8
theorem zfix8_s {A1 A2 A3 A4 A5 A6 A7 A8 β : Type} {F : (A1 → A2 → A3 → A4 → A5 → A6 → A7 → A8 → Option β) → A1 → A2 → A3 → A4 → A5 → A6 → A7 → A8 → Option β} {n : Nat} {a1 : A1} {a2 : A2} {a3 : A3} {a4 : A4} {a5 : A5} {a6 : A6} {a7 : A7} {a8 : A8} : zfix8 F (n + 1) a1 a2 a3 a4 a5 a6 a7 a8 = F (zfix8 F n) a1 a2 a3 a4 a5 a6 a7 a8 := rfl
/-! THE JUDGEMENT -/
abbrev zC : Type := (Program × Launch × Env × Room × State) × (MethodId × Array Value × List Frame × Method × Code) × (va_G × (Nat → ClassId) × Nat)
abbrev zN_RS : MethodName := ⟨"StockLines$RouteSearch", "<init>", "()V"⟩
def zAOA (U : State) : Prop := (Cond.arrayOver (.array .int)).before #[] U = true
theorem zAOA.moved {u U : State} (hvm : u.vm.Alike U.vm) (h : zAOA u) : zAOA U := by
  unfold zAOA Cond.before Cond.holds at h ⊢
  simp only [Cond.value, beq_iff_eq] at h ⊢
  have hi : ∀ comp : ClassId, (U.vm.classes.findIdx? fun (x : Class) => match x.kind with | .array component _ => component == comp | _ => false) = (u.vm.classes.findIdx? fun (x : Class) => match x.kind with | .array component _ => component == comp | _ => false) := by
    intro comp
    have hb : U.vm.bare = u.vm.bare := by first | exact hvm.bare_eq | exact hvm.bare_eq.symm
    exact (va_idx_bare U.vm comp).symm.trans ((congrArg (fun v : Vm => v.classes.findIdx? fun (x : Class) => match x.kind with | .array component _ => component == comp | _ => false) hb).trans (va_idx_bare u.vm comp))
  rw [hvm.findClass]
  cases hc : u.vm.findClass (FieldType.array FieldType.int).toString with
  | none => rw [hc] at h; simp at h
  | some comp =>
    rw [hc] at h
    simp only [Option.bind_some] at h ⊢
    have h2 := hi comp
    cases hx : (u.vm.classes.findIdx? fun (x : Class) => match x.kind with | .array component _ => component == comp | _ => false) with
    | none =>
      have h3 := (congrArg (fun o : Option Nat => (o.bind (fun c => (u.vm.classes[c]?).map fun (k : Class) => match k.kind with | .array _ ty => decide (ty = FieldType.array FieldType.int) && decide (u.vm.findClass ("[" ++ (FieldType.array FieldType.int).toString) = some c) | _ => false))) hx).symm.trans h
      simp at h3
    | some c =>
      have h3 := (congrArg (fun o : Option Nat => (o.bind (fun c => (u.vm.classes[c]?).map fun (k : Class) => match k.kind with | .array _ ty => decide (ty = FieldType.array FieldType.int) && decide (u.vm.findClass ("[" ++ (FieldType.array FieldType.int).toString) = some c) | _ => false))) hx).symm.trans h
      simp only [Option.bind_some, Option.map_eq_some_iff] at h3
      obtain ⟨k, hk, hb⟩ := h3
      obtain ⟨k', hk', he⟩ := hvm.2.2 _ _ hk
      refine (congrArg (fun o : Option Nat => (o.bind (fun c => (U.vm.classes[c]?).map fun (k : Class) => match k.kind with | .array _ ty => decide (ty = FieldType.array FieldType.int) && decide (U.vm.findClass ("[" ++ (FieldType.array FieldType.int).toString) = some c) | _ => false))) (h2.trans hx)).trans ?_
      simp only [Option.bind_some, Option.map_eq_some_iff]
      refine ⟨k', hk', ?_⟩
      rw [hvm.findClass]
      rw [he]
      exact hb
def zNa (U : State) : Prop := va_Nw (.methodLinkNest "StockLines" 9 ⟨"StockLines$RouteSearch", "<init>", "()V"⟩ "StockLines") U ∧ va_Nw (.methodLinkNest "StockLines$Game" 35 ⟨"StockLines$Company", "<init>", "()V"⟩ "StockLines") U ∧ va_Nw (.methodLinkNest "StockLines" 31 ⟨"StockLines$Script", "<init>", "()V"⟩ "StockLines") U ∧ va_Nw (.methodLinkNest "StockLines$Game" 167 ⟨"StockLines", "isTown", "(I)Z"⟩ "StockLines") U
def zExN (e : Nat) : String := match e with
  | 0 => "java/lang/IllegalArgumentException"
  | 1 => "java/lang/IndexOutOfBoundsException"
  | _ => "java/lang/IllegalStateException"
def zNb (U : State) : Prop := va_Nw (.castable (zExN 0) (zExN 0)) U ∧ va_Nw (.castable (zExN 1) (zExN 1)) U ∧ va_Nw (.castable (zExN 2) (zExN 2)) U ∧ va_Nw (.declares ⟨"java/lang/RuntimeException", "<init>", "()V"⟩) U ∧ va_Nw (.declares ⟨"java/lang/Exception", "<init>", "()V"⟩) U ∧ va_Nw (.declares ⟨"java/lang/Throwable", "<init>", "()V"⟩) U
def zNc (U : State) : Prop := va_Nc (zExN 0) (zExN 1) U ∧ va_Nc (zExN 2) (zExN 1) U ∧ va_Nc (zExN 2) (zExN 0) U
def zNd (U : State) : Prop := va_AO "StockLines$Company" U ∧ va_AO "StockLines$Game" U ∧ zAOA U
def zN (U : State) : Prop := zNa U ∧ zNb U ∧ zNc U ∧ zNd U
def zX (B : Nat) (U : State) (H : Heap) : Prop := vx_Zq Bundle.tN "UNASSIGNED_STACK" Bundle.steD (fun q => B ≤ q) U H ∧ vx_Zq Bundle.tN "SUPPRESSED_SENTINEL" Bundle.listD (fun q => B ≤ q) U H
def zSt (B : Nat) (D : va_G) (cA : Nat → ClassId) (h : zH) (U : State) : Prop := zP B D cA h U.heap ∧ va_K D vwCl (ztys cA) U ∧ B ≤ U.heap.size ∧ zN U ∧ zX B U U.heap
def zOk (B : Nat) (Z : zC) (cc : ByteArray) (own : String) (R : Room) (nL : Nat) : Prop :=
  Z.1.1.tables.exec = Jvm.exec ∧ Z.2.1.2.2.2.2.code = cc ∧ (∀ w ∈ zWs, w.before Z.2.1.2.1 Z.1.2.2.2.2 = true) ∧ Z.1.2.2.2.2.vm.findClass own = some Z.2.1.1.cls ∧ va_K Z.2.2.1 vwCl (ztys Z.2.2.2.1) Z.1.2.2.2.2 ∧ Z.1.2.2.2.1 = R ∧ Z.2.1.2.2.2.2.maxLocals = Z.2.2.2.2 ∧ B ≤ Z.1.2.2.2.2.heap.size ∧ zN Z.1.2.2.2.2 ∧ zX B Z.1.2.2.2.2 Z.1.2.2.2.2.heap ∧ Z.2.1.2.2.2.1.locks = false ∧ Z.2.2.2.2 = nL
def zW (B : Nat) (Z : zC) (Q : State → Prop) (pc : Nat) (lv : List (Nat × Value)) (st : List Value) (h : zH) (z : Nat × Nat × Nat) : Prop :=
  ∀ (H : Heap) (locs : List Loc) (ls : Array Slot), lv_has ls Z.2.2.2.2 lv → zP B Z.2.2.1 Z.2.2.2.1 h H → z.2.2 ≤ H.size → va_S (fun q => B ≤ q) Z.1.2.2.2.2.heap H locs →
    W Z.1.1 Z.1.2.1 Z.1.2.2.1 Z.1.2.2.2.1 Z.1.2.2.2.2 Z.2.1.1 Z.2.1.2.1 Z.2.1.2.2.1 Z.2.1.2.2.2.1 Z.2.1.2.2.2.2 H locs z.1 z.2.1 Q (F0 Z.2.1.1 pc ls st)
/-- if the abstract run o comes to u, the machine, now at pc with the locals lv, the stack st and a heap that stands for h, comes to a state of Q u -/
def zJ (B : Nat) (Z : zC) {α : Type} (Q : α → State → Prop) (o : Option α) (pc : Nat) (lv : List (Nat × Value)) (st : List Value) (h : zH) (z : Nat × Nat × Nat) : Prop := ∀ u, o = some u → zW B Z (Q u) pc lv st h z
section ZR
variable {B : Nat} {Z : zC} {α β γ : Type} {Q : α → State → Prop} {o o1 o2 : Option α} {pc : Nat} {lv lv' : List (Nat × Value)} {st : List Value} {h : zH} {z : Nat × Nat × Nat} {cc : ByteArray} {own : String} {R : Room} {nL : Nat}
theorem zlt {B : Nat} {Z : zC} {cc : ByteArray} {own : String} {R : Room} {nL i : Nat} (C : zOk B Z cc own R nL) (h : i < nL) : i < (Z.2.2.2.2 : Nat) := by rw [C.2.2.2.2.2.2.2.2.2.2.2]; exact h
theorem z_none : zJ B Z Q none pc lv st h z := fun u hu => nomatch hu
theorem z_let {x : β} {F : β → Option α} (k : zJ B Z Q (F x) pc lv st h z) : zJ B Z Q (zlet x F) pc lv st h z := k
theorem z_letg {x : β} {F : β → Option α} (P : β → Prop) (hx : P x) (k : ∀ K, P K → zJ B Z Q (F K) pc lv st h z) : zJ B Z Q (zlet x F) pc lv st h z := k x hx
theorem z_sub (ks : List Nat) (hl : lv_pick lv ks = lv') (k : zJ B Z Q o pc lv' st h z) : zJ B Z Q o pc lv st h z := fun u hu H locs ls hL hP hz hS => k u hu H locs ls (lv_sub hL ks hl) hP hz hS
theorem z_bind {x : Option β} {F : β → Option α} (k : ∀ y, x = some y → zJ B Z Q (F y) pc lv st h z) : zJ B Z Q (x.bind F) pc lv st h z := by
  cases hx : x with
  | none => exact z_none
  | some y => exact k y hx
theorem z_b2 {x : Option (β × γ)} {F : β → γ → Option α} (k : ∀ y w, x = some (y, w) → zJ B Z Q (F y w) pc lv st h z) : zJ B Z Q (zb2 x F) pc lv st h z := by
  cases hx : x with
  | none => exact z_none
  | some y => exact k y.1 y.2 hx
theorem z_rc {a ci : Nat} {x : Option α} (k : ∀ fs, zO h a ci = some fs → zJ B Z Q x pc lv st h z) : zJ B Z Q (zrc h a ci x) pc lv st h z := by
  unfold zrc
  cases hx : zO h a ci with
  | none => exact z_none
  | some y => exact k y hx

theorem z_iconst (C : zOk B Z cc own R nL) {n : Int} {v : Int32} (d : decode cc pc = .ok (.iconst n, 1)) (hv : Int32.ofInt n = v) (k : zJ B Z Q o (pc + 1) lv (.int v :: st) h z) : zJ B Z Q o pc lv (st) h z := fun u hu H locs ls hL hP hz hS => lv_iconst C.1 C.2.1 d hv (k u hu H locs ls hL hP hz hS)
theorem z_bipush (C : zOk B Z cc own R nL) {n : Int} {v : Int32} (d : decode cc pc = .ok (.bipush n, 2)) (hv : (Int8.ofInt n).toInt32 = v) (k : zJ B Z Q o (pc + 2) lv (.int v :: st) h z) : zJ B Z Q o pc lv (st) h z := fun u hu H locs ls hL hP hz hS => lv_bipush C.1 C.2.1 d hv (k u hu H locs ls hL hP hz hS)
theorem z_sipush (C : zOk B Z cc own R nL) {n : Int} {v : Int32} (d : decode cc pc = .ok (.sipush n, 3)) (hv : (Int16.ofInt n).toInt32 = v) (k : zJ B Z Q o (pc + 3) lv (.int v :: st) h z) : zJ B Z Q o pc lv (st) h z := fun u hu H locs ls hL hP hz hS => lv_sipush C.1 C.2.1 d hv (k u hu H locs ls hL hP hz hS)
theorem z_iload (C : zOk B Z cc own R nL) {i : Nat} {x : Int32} (d : decode cc pc = .ok (.iload i, 2)) (j : Nat) (hl : lv[j]? = some (i, .int x)) (k : zJ B Z Q o (pc + 2) lv (.int x :: st) h z) : zJ B Z Q o pc lv (st) h z := fun u hu H locs ls hL hP hz hS => lv_iload C.1 C.2.1 d (lv_at hL j hl) (k u hu H locs ls hL hP hz hS)
theorem z_iload_n (C : zOk B Z cc own R nL) {i : Fin 4} {i2 : Nat} {x : Int32} (d : decode cc pc = .ok (.iload_n i, 1)) (hi : (i : Nat) = i2) (j : Nat) (hl : lv[j]? = some (i2, .int x)) (k : zJ B Z Q o (pc + 1) lv (.int x :: st) h z) : zJ B Z Q o pc lv (st) h z := fun u hu H locs ls hL hP hz hS => lv_iload_n C.1 C.2.1 d hi (lv_at hL j hl) (k u hu H locs ls hL hP hz hS)
theorem z_lload (C : zOk B Z cc own R nL) {i : Nat} {x : Int64} (d : decode cc pc = .ok (.lload i, 2)) (j : Nat) (hl : lv[j]? = some (i, .long x)) (k : zJ B Z Q o (pc + 2) lv (.long x :: st) h z) : zJ B Z Q o pc lv (st) h z := fun u hu H locs ls hL hP hz hS => lv_lload C.1 C.2.1 d (lv_at hL j hl) (k u hu H locs ls hL hP hz hS)
theorem z_lload_n (C : zOk B Z cc own R nL) {i : Fin 4} {i2 : Nat} {x : Int64} (d : decode cc pc = .ok (.lload_n i, 1)) (hi : (i : Nat) = i2) (j : Nat) (hl : lv[j]? = some (i2, .long x)) (k : zJ B Z Q o (pc + 1) lv (.long x :: st) h z) : zJ B Z Q o pc lv (st) h z := fun u hu H locs ls hL hP hz hS => lv_lload_n C.1 C.2.1 d hi (lv_at hL j hl) (k u hu H locs ls hL hP hz hS)
theorem z_dload (C : zOk B Z cc own R nL) {i : Nat} {x : UInt64} (d : decode cc pc = .ok (.dload i, 2)) (j : Nat) (hl : lv[j]? = some (i, .double x)) (k : zJ B Z Q o (pc + 2) lv (.double x :: st) h z) : zJ B Z Q o pc lv (st) h z := fun u hu H locs ls hL hP hz hS => lv_dload C.1 C.2.1 d (lv_at hL j hl) (k u hu H locs ls hL hP hz hS)
theorem z_dload_n (C : zOk B Z cc own R nL) {i : Fin 4} {i2 : Nat} {x : UInt64} (d : decode cc pc = .ok (.dload_n i, 1)) (hi : (i : Nat) = i2) (j : Nat) (hl : lv[j]? = some (i2, .double x)) (k : zJ B Z Q o (pc + 1) lv (.double x :: st) h z) : zJ B Z Q o pc lv (st) h z := fun u hu H locs ls hL hP hz hS => lv_dload_n C.1 C.2.1 d hi (lv_at hL j hl) (k u hu H locs ls hL hP hz hS)
theorem z_aload (C : zOk B Z cc own R nL) {i x : Nat} (d : decode cc pc = .ok (.aload i, 2)) (j : Nat) (hl : lv[j]? = some (i, .ref x)) (k : zJ B Z Q o (pc + 2) lv (.ref x :: st) h z) : zJ B Z Q o pc lv (st) h z := fun u hu H locs ls hL hP hz hS => lv_aload C.1 C.2.1 d (lv_at hL j hl) (k u hu H locs ls hL hP hz hS)
theorem z_aload_n (C : zOk B Z cc own R nL) {i : Fin 4} {i2 x : Nat} (d : decode cc pc = .ok (.aload_n i, 1)) (hi : (i : Nat) = i2) (j : Nat) (hl : lv[j]? = some (i2, .ref x)) (k : zJ B Z Q o (pc + 1) lv (.ref x :: st) h z) : zJ B Z Q o pc lv (st) h z := fun u hu H locs ls hL hP hz hS => lv_aload_n C.1 C.2.1 d hi (lv_at hL j hl) (k u hu H locs ls hL hP hz hS)
theorem z_istore (C : zOk B Z cc own R nL) {i : Nat} {x : Int32} (d : decode cc pc = .ok (.istore i, 2)) (hn : i < nL) (hl : (i, .int x) :: lv.filter (fun q => !(q.1 == i) && !(q.1 + 1 == i && q.2.category == 2)) = lv') (k : zJ B Z Q o (pc + 2) lv' st h z) : zJ B Z Q o pc lv (.int x :: st) h z := fun u hu H locs ls hL hP hz hS => lv_istore C.1 C.2.1 d hL (zlt C hn) hl (fun ls hL => k u hu H locs ls hL hP hz hS)
theorem z_istore_n (C : zOk B Z cc own R nL) {j : Fin 4} {i : Nat} {x : Int32} (d : decode cc pc = .ok (.istore_n j, 1)) (hi : (j : Nat) = i) (hn : i < nL) (hl : (i, .int x) :: lv.filter (fun q => !(q.1 == i) && !(q.1 + 1 == i && q.2.category == 2)) = lv') (k : zJ B Z Q o (pc + 1) lv' st h z) : zJ B Z Q o pc lv (.int x :: st) h z := fun u hu H locs ls hL hP hz hS => lv_istore_n C.1 C.2.1 d hi hL (zlt C hn) hl (fun ls hL => k u hu H locs ls hL hP hz hS)
theorem z_astore (C : zOk B Z cc own R nL) {i : Nat} {x : Nat} (d : decode cc pc = .ok (.astore i, 2)) (hn : i < nL) (hl : (i, .ref x) :: lv.filter (fun q => !(q.1 == i) && !(q.1 + 1 == i && q.2.category == 2)) = lv') (k : zJ B Z Q o (pc + 2) lv' st h z) : zJ B Z Q o pc lv (.ref x :: st) h z := fun u hu H locs ls hL hP hz hS => lv_astore C.1 C.2.1 d hL (zlt C hn) hl (fun ls hL => k u hu H locs ls hL hP hz hS)
theorem z_astore_n (C : zOk B Z cc own R nL) {j : Fin 4} {i : Nat} {x : Nat} (d : decode cc pc = .ok (.astore_n j, 1)) (hi : (j : Nat) = i) (hn : i < nL) (hl : (i, .ref x) :: lv.filter (fun q => !(q.1 == i) && !(q.1 + 1 == i && q.2.category == 2)) = lv') (k : zJ B Z Q o (pc + 1) lv' st h z) : zJ B Z Q o pc lv (.ref x :: st) h z := fun u hu H locs ls hL hP hz hS => lv_astore_n C.1 C.2.1 d hi hL (zlt C hn) hl (fun ls hL => k u hu H locs ls hL hP hz hS)
theorem z_lstore (C : zOk B Z cc own R nL) {i : Nat} {x : Int64} (d : decode cc pc = .ok (.lstore i, 2)) (hn : i + 1 < nL) (hl : (i, .long x) :: lv.filter (fun q => !(q.1 == i) && (!(q.1 == i + 1) && !(q.1 + 1 == i && q.2.category == 2))) = lv') (k : zJ B Z Q o (pc + 2) lv' st h z) : zJ B Z Q o pc lv (.long x :: st) h z := fun u hu H locs ls hL hP hz hS => lv_lstore C.1 C.2.1 d hL (zlt C hn) hl (fun ls hL => k u hu H locs ls hL hP hz hS)
theorem z_lstore_n (C : zOk B Z cc own R nL) {j : Fin 4} {i : Nat} {x : Int64} (d : decode cc pc = .ok (.lstore_n j, 1)) (hi : (j : Nat) = i) (hn : i + 1 < nL) (hl : (i, .long x) :: lv.filter (fun q => !(q.1 == i) && (!(q.1 == i + 1) && !(q.1 + 1 == i && q.2.category == 2))) = lv') (k : zJ B Z Q o (pc + 1) lv' st h z) : zJ B Z Q o pc lv (.long x :: st) h z := fun u hu H locs ls hL hP hz hS => lv_lstore_n C.1 C.2.1 d hi hL (zlt C hn) hl (fun ls hL => k u hu H locs ls hL hP hz hS)
theorem z_dstore (C : zOk B Z cc own R nL) {i : Nat} {x : UInt64} (d : decode cc pc = .ok (.dstore i, 2)) (hn : i + 1 < nL) (hl : (i, .double x) :: lv.filter (fun q => !(q.1 == i) && (!(q.1 == i + 1) && !(q.1 + 1 == i && q.2.category == 2))) = lv') (k : zJ B Z Q o (pc + 2) lv' st h z) : zJ B Z Q o pc lv (.double x :: st) h z := fun u hu H locs ls hL hP hz hS => lv_dstore C.1 C.2.1 d hL (zlt C hn) hl (fun ls hL => k u hu H locs ls hL hP hz hS)
theorem z_dstore_n (C : zOk B Z cc own R nL) {j : Fin 4} {i : Nat} {x : UInt64} (d : decode cc pc = .ok (.dstore_n j, 1)) (hi : (j : Nat) = i) (hn : i + 1 < nL) (hl : (i, .double x) :: lv.filter (fun q => !(q.1 == i) && (!(q.1 == i + 1) && !(q.1 + 1 == i && q.2.category == 2))) = lv') (k : zJ B Z Q o (pc + 1) lv' st h z) : zJ B Z Q o pc lv (.double x :: st) h z := fun u hu H locs ls hL hP hz hS => lv_dstore_n C.1 C.2.1 d hi hL (zlt C hn) hl (fun ls hL => k u hu H locs ls hL hP hz hS)
theorem z_iinc (C : zOk B Z cc own R nL) {i : Nat} {n : Int} {x v : Int32} (d : decode cc pc = .ok (.iinc i n, 3)) (j : Nat) (hk : lv[j]? = some (i, .int x)) (hv : x + Int32.ofInt n = v) (hn : i < nL) (hl : (i, .int v) :: lv.filter (fun q => !(q.1 == i) && !(q.1 + 1 == i && q.2.category == 2)) = lv') (k : zJ B Z Q o (pc + 3) lv' st h z) : zJ B Z Q o pc lv st h z := fun u hu H locs ls hL hP hz hS => lv_iinc C.1 C.2.1 d hL hk hv (zlt C hn) hl (fun ls hL => k u hu H locs ls hL hP hz hS)
theorem z_iadd (C : zOk B Z cc own R nL) {x y : Int32} (d : decode cc pc = .ok (.iadd, 1)) (k : zJ B Z Q o (pc + 1) lv (.int (x + y) :: st) h z) : zJ B Z Q o pc lv (.int y :: .int x :: st) h z := fun u hu H locs ls hL hP hz hS => lv_iadd C.1 C.2.1 d (k u hu H locs ls hL hP hz hS)
theorem z_isub (C : zOk B Z cc own R nL) {x y : Int32} (d : decode cc pc = .ok (.isub, 1)) (k : zJ B Z Q o (pc + 1) lv (.int (x - y) :: st) h z) : zJ B Z Q o pc lv (.int y :: .int x :: st) h z := fun u hu H locs ls hL hP hz hS => lv_isub C.1 C.2.1 d (k u hu H locs ls hL hP hz hS)
theorem z_imul (C : zOk B Z cc own R nL) {x y : Int32} (d : decode cc pc = .ok (.imul, 1)) (k : zJ B Z Q o (pc + 1) lv (.int (x * y) :: st) h z) : zJ B Z Q o pc lv (.int y :: .int x :: st) h z := fun u hu H locs ls hL hP hz hS => lv_imul C.1 C.2.1 d (k u hu H locs ls hL hP hz hS)
theorem z_iand (C : zOk B Z cc own R nL) {x y : Int32} (d : decode cc pc = .ok (.iand, 1)) (k : zJ B Z Q o (pc + 1) lv (.int (x &&& y) :: st) h z) : zJ B Z Q o pc lv (.int y :: .int x :: st) h z := fun u hu H locs ls hL hP hz hS => lv_iand C.1 C.2.1 d (k u hu H locs ls hL hP hz hS)
theorem z_ior (C : zOk B Z cc own R nL) {x y : Int32} (d : decode cc pc = .ok (.ior, 1)) (k : zJ B Z Q o (pc + 1) lv (.int (x ||| y) :: st) h z) : zJ B Z Q o pc lv (.int y :: .int x :: st) h z := fun u hu H locs ls hL hP hz hS => lv_ior C.1 C.2.1 d (k u hu H locs ls hL hP hz hS)
theorem z_ishl (C : zOk B Z cc own R nL) {x y : Int32} (d : decode cc pc = .ok (.ishl, 1)) (k : zJ B Z Q o (pc + 1) lv (.int (x <<< (y &&& 31)) :: st) h z) : zJ B Z Q o pc lv (.int y :: .int x :: st) h z := fun u hu H locs ls hL hP hz hS => lv_ishl C.1 C.2.1 d (k u hu H locs ls hL hP hz hS)
theorem z_ishr (C : zOk B Z cc own R nL) {x y : Int32} (d : decode cc pc = .ok (.ishr, 1)) (k : zJ B Z Q o (pc + 1) lv (.int (x >>> (y &&& 31)) :: st) h z) : zJ B Z Q o pc lv (.int y :: .int x :: st) h z := fun u hu H locs ls hL hP hz hS => lv_ishr C.1 C.2.1 d (k u hu H locs ls hL hP hz hS)
theorem z_ladd (C : zOk B Z cc own R nL) {x y : Int64} (d : decode cc pc = .ok (.ladd, 1)) (k : zJ B Z Q o (pc + 1) lv (.long (x + y) :: st) h z) : zJ B Z Q o pc lv (.long y :: .long x :: st) h z := fun u hu H locs ls hL hP hz hS => lv_ladd C.1 C.2.1 d (k u hu H locs ls hL hP hz hS)
theorem z_lmul (C : zOk B Z cc own R nL) {x y : Int64} (d : decode cc pc = .ok (.lmul, 1)) (k : zJ B Z Q o (pc + 1) lv (.long (x * y) :: st) h z) : zJ B Z Q o pc lv (.long y :: .long x :: st) h z := fun u hu H locs ls hL hP hz hS => lv_lmul C.1 C.2.1 d (k u hu H locs ls hL hP hz hS)
theorem z_ineg (C : zOk B Z cc own R nL) {x : Int32} (d : decode cc pc = .ok (.ineg, 1)) (k : zJ B Z Q o (pc + 1) lv (.int (-x) :: st) h z) : zJ B Z Q o pc lv (.int x :: st) h z := fun u hu H locs ls hL hP hz hS => lv_ineg C.1 C.2.1 d (k u hu H locs ls hL hP hz hS)
theorem z_i2l (C : zOk B Z cc own R nL) {x : Int32} (d : decode cc pc = .ok (.i2l, 1)) (k : zJ B Z Q o (pc + 1) lv (.long x.toInt64 :: st) h z) : zJ B Z Q o pc lv (.int x :: st) h z := fun u hu H locs ls hL hP hz hS => lv_i2l C.1 C.2.1 d rfl (k u hu H locs ls hL hP hz hS)
theorem z_i2d (C : zOk B Z cc own R nL) {x : Int32} (d : decode cc pc = .ok (.i2d, 1)) (k : zJ B Z Q o (pc + 1) lv (.double (FP.i2d x) :: st) h z) : zJ B Z Q o pc lv (.int x :: st) h z := fun u hu H locs ls hL hP hz hS => lv_i2d C.1 C.2.1 d (k u hu H locs ls hL hP hz hS)
theorem z_lcmp (C : zOk B Z cc own R nL) {x y : Int64} (d : decode cc pc = .ok (.lcmp, 1)) (k : zJ B Z Q o (pc + 1) lv (.int (lg_cmp x y) :: st) h z) : zJ B Z Q o pc lv (.long y :: .long x :: st) h z := fun u hu H locs ls hL hP hz hS => W.lcmp C.1 C.2.1 d (k u hu H locs ls hL hP hz hS)
theorem z_dcmp (C : zOk B Z cc own R nL) {x y : UInt64} {op : CmpOp} (d : decode cc pc = .ok (.dcmp op, 1)) (k : zJ B Z Q o (pc + 1) lv (.int (Op.cmpValue (FP.dcmp x y) op) :: st) h z) : zJ B Z Q o pc lv (.double y :: .double x :: st) h z := fun u hu H locs ls hL hP hz hS => lv_dcmp C.1 C.2.1 d (k u hu H locs ls hL hP hz hS)
theorem z_dconst0 (C : zOk B Z cc own R nL)  (d : decode cc pc = .ok (.dconst 0, 1)) (k : zJ B Z Q o (pc + 1) lv (.double FP.dconst0 :: st) h z) : zJ B Z Q o pc lv (st) h z := fun u hu H locs ls hL hP hz hS => lv_dconst0 C.1 C.2.1 d (k u hu H locs ls hL hP hz hS)
theorem z_ddiv (C : zOk B Z cc own R nL) {x y : UInt64} (d : decode cc pc = .ok (.ddiv, 1)) (hne : vf_n64 (FP.ddiv x y)) (k : zJ B Z Q o (pc + 1) lv (.double (FP.ddiv x y) :: st) h z) : zJ B Z Q o pc lv (.double y :: .double x :: st) h z := fun u hu H locs ls hL hP hz hS => lv_ddiv C.1 C.2.1 d hne (k u hu H locs ls hL hP hz hS)
theorem z_idivc (C : zOk B Z cc own R nL) {x y : Int32} (d : decode cc pc = .ok (.idiv, 1)) (hne : ¬ y = 0) (k : zJ B Z Q o (pc + 1) lv (.int (x / y) :: st) h z) : zJ B Z Q o pc lv (.int y :: .int x :: st) h z := fun u hu H locs ls hL hP hz hS => lv_idiv C.1 C.2.1 d hne (k u hu H locs ls hL hP hz hS)
theorem z_iremc (C : zOk B Z cc own R nL) {x y : Int32} (d : decode cc pc = .ok (.irem, 1)) (hne : ¬ y = 0) (k : zJ B Z Q o (pc + 1) lv (.int (zrem x y) :: st) h z) : zJ B Z Q o pc lv (.int y :: .int x :: st) h z := fun u hu H locs ls hL hP hz hS => lv_irem C.1 C.2.1 d hne (k u hu H locs ls hL hP hz hS)
theorem z_dup (C : zOk B Z cc own R nL) {v : Value} (d : decode cc pc = .ok (.dup, 1)) (hv : v.category = 1) (k : zJ B Z Q o (pc + 1) lv (v :: v :: st) h z) : zJ B Z Q o pc lv (v :: st) h z := fun u hu H locs ls hL hP hz hS => lv_dup C.1 C.2.1 d hv (k u hu H locs ls hL hP hz hS)
theorem z_dup2 (C : zOk B Z cc own R nL) {v w : Value} (d : decode cc pc = .ok (.dup2, 1)) (hv : v.category = 1) (hw : w.category = 1) (k : zJ B Z Q o (pc + 1) lv (v :: w :: v :: w :: st) h z) : zJ B Z Q o pc lv (v :: w :: st) h z := fun u hu H locs ls hL hP hz hS => lv_dup2_11 C.1 C.2.1 d hv hw (k u hu H locs ls hL hP hz hS)
theorem z_pop (C : zOk B Z cc own R nL) {v : Value} (d : decode cc pc = .ok (.pop, 1)) (hv : v.category = 1) (k : zJ B Z Q o (pc + 1) lv (st) h z) : zJ B Z Q o pc lv (v :: st) h z := fun u hu H locs ls hL hP hz hS => lv_pop C.1 C.2.1 d hv (k u hu H locs ls hL hP hz hS)
theorem z_idiv (C : zOk B Z cc own R nL) {x y : Int32} {F : Int32 → Option α} (d : decode cc pc = .ok (.idiv, 1)) (k : zJ B Z Q (F (x / y)) (pc + 1) lv (.int (x / y) :: st) h z) : zJ B Z Q ((zdiv x y).bind F) pc lv (.int y :: .int x :: st) h z := by
  unfold zdiv
  by_cases hy : y = 0
  · rw [if_pos hy]; exact z_none
  · rw [if_neg hy]
    exact z_idivc C d hy k
theorem z_goto (C : zOk B Z cc own R nL) {off : Int} {tgt : Nat} (d : decode cc pc = .ok (.goto off, 3)) (ht : (pc : Int) + off = (tgt : Int)) (k : zJ B Z Q o tgt lv st h z) : zJ B Z Q o pc lv st h z := fun u hu H locs ls hL hP hz hS => lv_goto C.1 C.2.1 d ht (k u hu H locs ls hL hP hz hS)
theorem z_ldc2 (C : zOk B Z cc own R nL) {index : Nat} {v : Int64} (hw : Cond.constantLong own index v ∈ zWs) (d : decode cc pc = .ok (.ldc2_w index, 3)) (k : zJ B Z Q o (pc + 3) lv (.long v :: st) h z) : zJ B Z Q o pc lv st h z := fun u hu H locs ls hL hP hz hS => lv_ldc2 C.1 C.2.1 C.2.2.2.1 (C.2.2.1 _ hw) d (k u hu H locs ls hL hP hz hS)
theorem z_if_eq (C : zOk B Z cc own R nL) {x : Int32} {off : Int} {tgt : Nat} (d : decode cc pc = .ok (.ifCond .eq off, 3)) (ht : (pc : Int) + off = (tgt : Int)) (kt : x = 0 → zJ B Z Q o1 tgt lv st h z) (kf : ¬ x = 0 → zJ B Z Q o2 (pc + 3) lv st h z) : zJ B Z Q (if x = 0 then o1 else o2) pc lv (.int x :: st) h z := fun u hu H locs ls hL hP hz hS => lv_if_eq C.1 C.2.1 d ht (fun hc => kt hc u (by rw [if_pos hc] at hu; exact hu) H locs ls hL hP hz hS) (fun hc => kf hc u (by rw [if_neg hc] at hu; exact hu) H locs ls hL hP hz hS)
/-- a branch that its numbers decide -/
theorem z_if_eq_t (C : zOk B Z cc own R nL) {x : Int32} {off : Int} {tgt : Nat} (d : decode cc pc = .ok (.ifCond .eq off, 3)) (ht : (pc : Int) + off = (tgt : Int)) (hc : x = 0) (kt : zJ B Z Q o tgt lv st h z) : zJ B Z Q o pc lv (.int x :: st) h z := fun u hu H locs ls hL hP hz hS => lv_if_eq C.1 C.2.1 d ht (fun _ => kt u hu H locs ls hL hP hz hS) (fun hf => absurd hc hf)
theorem z_if_eq_f (C : zOk B Z cc own R nL) {x : Int32} {off : Int} {tgt : Nat} (d : decode cc pc = .ok (.ifCond .eq off, 3)) (ht : (pc : Int) + off = (tgt : Int)) (hc : ¬ x = 0) (kf : zJ B Z Q o (pc + 3) lv st h z) : zJ B Z Q o pc lv (.int x :: st) h z := fun u hu H locs ls hL hP hz hS => lv_if_eq C.1 C.2.1 d ht (fun ht => absurd ht hc) (fun _ => kf u hu H locs ls hL hP hz hS)
theorem z_icmp_eq (C : zOk B Z cc own R nL) {x y : Int32} {off : Int} {tgt : Nat} (d : decode cc pc = .ok (.if_icmp .eq off, 3)) (ht : (pc : Int) + off = (tgt : Int)) (kt : x = y → zJ B Z Q o1 tgt lv st h z) (kf : ¬ x = y → zJ B Z Q o2 (pc + 3) lv st h z) : zJ B Z Q (if x = y then o1 else o2) pc lv (.int y :: .int x :: st) h z := fun u hu H locs ls hL hP hz hS => lv_icmp_eq C.1 C.2.1 d ht (fun hc => kt hc u (by rw [if_pos hc] at hu; exact hu) H locs ls hL hP hz hS) (fun hc => kf hc u (by rw [if_neg hc] at hu; exact hu) H locs ls hL hP hz hS)
/-- a branch that its numbers decide -/
theorem z_icmp_eq_t (C : zOk B Z cc own R nL) {x y : Int32} {off : Int} {tgt : Nat} (d : decode cc pc = .ok (.if_icmp .eq off, 3)) (ht : (pc : Int) + off = (tgt : Int)) (hc : x = y) (kt : zJ B Z Q o tgt lv st h z) : zJ B Z Q o pc lv (.int y :: .int x :: st) h z := fun u hu H locs ls hL hP hz hS => lv_icmp_eq C.1 C.2.1 d ht (fun _ => kt u hu H locs ls hL hP hz hS) (fun hf => absurd hc hf)
theorem z_icmp_eq_f (C : zOk B Z cc own R nL) {x y : Int32} {off : Int} {tgt : Nat} (d : decode cc pc = .ok (.if_icmp .eq off, 3)) (ht : (pc : Int) + off = (tgt : Int)) (hc : ¬ x = y) (kf : zJ B Z Q o (pc + 3) lv st h z) : zJ B Z Q o pc lv (.int y :: .int x :: st) h z := fun u hu H locs ls hL hP hz hS => lv_icmp_eq C.1 C.2.1 d ht (fun ht => absurd ht hc) (fun _ => kf u hu H locs ls hL hP hz hS)
theorem z_if_ne (C : zOk B Z cc own R nL) {x : Int32} {off : Int} {tgt : Nat} (d : decode cc pc = .ok (.ifCond .ne off, 3)) (ht : (pc : Int) + off = (tgt : Int)) (kt : ¬ x = 0 → zJ B Z Q o2 tgt lv st h z) (kf : x = 0 → zJ B Z Q o1 (pc + 3) lv st h z) : zJ B Z Q (if x = 0 then o1 else o2) pc lv (.int x :: st) h z := fun u hu H locs ls hL hP hz hS => lv_if_ne C.1 C.2.1 d ht (fun hc => kt hc u (by rw [if_neg hc] at hu; exact hu) H locs ls hL hP hz hS) (fun hc => kf hc u (by rw [if_pos hc] at hu; exact hu) H locs ls hL hP hz hS)
/-- a branch that its numbers decide -/
theorem z_if_ne_t (C : zOk B Z cc own R nL) {x : Int32} {off : Int} {tgt : Nat} (d : decode cc pc = .ok (.ifCond .ne off, 3)) (ht : (pc : Int) + off = (tgt : Int)) (hc : ¬ x = 0) (kt : zJ B Z Q o tgt lv st h z) : zJ B Z Q o pc lv (.int x :: st) h z := fun u hu H locs ls hL hP hz hS => lv_if_ne C.1 C.2.1 d ht (fun _ => kt u hu H locs ls hL hP hz hS) (fun hf => absurd hc (fun q => q hf))
theorem z_if_ne_f (C : zOk B Z cc own R nL) {x : Int32} {off : Int} {tgt : Nat} (d : decode cc pc = .ok (.ifCond .ne off, 3)) (ht : (pc : Int) + off = (tgt : Int)) (hc : x = 0) (kf : zJ B Z Q o (pc + 3) lv st h z) : zJ B Z Q o pc lv (.int x :: st) h z := fun u hu H locs ls hL hP hz hS => lv_if_ne C.1 C.2.1 d ht (fun ht => absurd hc ht) (fun _ => kf u hu H locs ls hL hP hz hS)
theorem z_icmp_ne (C : zOk B Z cc own R nL) {x y : Int32} {off : Int} {tgt : Nat} (d : decode cc pc = .ok (.if_icmp .ne off, 3)) (ht : (pc : Int) + off = (tgt : Int)) (kt : ¬ x = y → zJ B Z Q o2 tgt lv st h z) (kf : x = y → zJ B Z Q o1 (pc + 3) lv st h z) : zJ B Z Q (if x = y then o1 else o2) pc lv (.int y :: .int x :: st) h z := fun u hu H locs ls hL hP hz hS => lv_icmp_ne C.1 C.2.1 d ht (fun hc => kt hc u (by rw [if_neg hc] at hu; exact hu) H locs ls hL hP hz hS) (fun hc => kf hc u (by rw [if_pos hc] at hu; exact hu) H locs ls hL hP hz hS)
/-- a branch that its numbers decide -/
theorem z_icmp_ne_t (C : zOk B Z cc own R nL) {x y : Int32} {off : Int} {tgt : Nat} (d : decode cc pc = .ok (.if_icmp .ne off, 3)) (ht : (pc : Int) + off = (tgt : Int)) (hc : ¬ x = y) (kt : zJ B Z Q o tgt lv st h z) : zJ B Z Q o pc lv (.int y :: .int x :: st) h z := fun u hu H locs ls hL hP hz hS => lv_icmp_ne C.1 C.2.1 d ht (fun _ => kt u hu H locs ls hL hP hz hS) (fun hf => absurd hc (fun q => q hf))
theorem z_icmp_ne_f (C : zOk B Z cc own R nL) {x y : Int32} {off : Int} {tgt : Nat} (d : decode cc pc = .ok (.if_icmp .ne off, 3)) (ht : (pc : Int) + off = (tgt : Int)) (hc : x = y) (kf : zJ B Z Q o (pc + 3) lv st h z) : zJ B Z Q o pc lv (.int y :: .int x :: st) h z := fun u hu H locs ls hL hP hz hS => lv_icmp_ne C.1 C.2.1 d ht (fun ht => absurd hc ht) (fun _ => kf u hu H locs ls hL hP hz hS)
theorem z_if_lt (C : zOk B Z cc own R nL) {x : Int32} {off : Int} {tgt : Nat} (d : decode cc pc = .ok (.ifCond .lt off, 3)) (ht : (pc : Int) + off = (tgt : Int)) (kt : x < 0 → zJ B Z Q o1 tgt lv st h z) (kf : ¬ x < 0 → zJ B Z Q o2 (pc + 3) lv st h z) : zJ B Z Q (if x < 0 then o1 else o2) pc lv (.int x :: st) h z := fun u hu H locs ls hL hP hz hS => lv_if_lt C.1 C.2.1 d ht (fun hc => kt hc u (by rw [if_pos hc] at hu; exact hu) H locs ls hL hP hz hS) (fun hc => kf hc u (by rw [if_neg hc] at hu; exact hu) H locs ls hL hP hz hS)
/-- a branch that its numbers decide -/
theorem z_if_lt_t (C : zOk B Z cc own R nL) {x : Int32} {off : Int} {tgt : Nat} (d : decode cc pc = .ok (.ifCond .lt off, 3)) (ht : (pc : Int) + off = (tgt : Int)) (hc : x < 0) (kt : zJ B Z Q o tgt lv st h z) : zJ B Z Q o pc lv (.int x :: st) h z := fun u hu H locs ls hL hP hz hS => lv_if_lt C.1 C.2.1 d ht (fun _ => kt u hu H locs ls hL hP hz hS) (fun hf => absurd hc hf)
theorem z_if_lt_f (C : zOk B Z cc own R nL) {x : Int32} {off : Int} {tgt : Nat} (d : decode cc pc = .ok (.ifCond .lt off, 3)) (ht : (pc : Int) + off = (tgt : Int)) (hc : ¬ x < 0) (kf : zJ B Z Q o (pc + 3) lv st h z) : zJ B Z Q o pc lv (.int x :: st) h z := fun u hu H locs ls hL hP hz hS => lv_if_lt C.1 C.2.1 d ht (fun ht => absurd ht hc) (fun _ => kf u hu H locs ls hL hP hz hS)
theorem z_icmp_lt (C : zOk B Z cc own R nL) {x y : Int32} {off : Int} {tgt : Nat} (d : decode cc pc = .ok (.if_icmp .lt off, 3)) (ht : (pc : Int) + off = (tgt : Int)) (kt : x < y → zJ B Z Q o1 tgt lv st h z) (kf : ¬ x < y → zJ B Z Q o2 (pc + 3) lv st h z) : zJ B Z Q (if x < y then o1 else o2) pc lv (.int y :: .int x :: st) h z := fun u hu H locs ls hL hP hz hS => lv_icmp_lt C.1 C.2.1 d ht (fun hc => kt hc u (by rw [if_pos hc] at hu; exact hu) H locs ls hL hP hz hS) (fun hc => kf hc u (by rw [if_neg hc] at hu; exact hu) H locs ls hL hP hz hS)
/-- a branch that its numbers decide -/
theorem z_icmp_lt_t (C : zOk B Z cc own R nL) {x y : Int32} {off : Int} {tgt : Nat} (d : decode cc pc = .ok (.if_icmp .lt off, 3)) (ht : (pc : Int) + off = (tgt : Int)) (hc : x < y) (kt : zJ B Z Q o tgt lv st h z) : zJ B Z Q o pc lv (.int y :: .int x :: st) h z := fun u hu H locs ls hL hP hz hS => lv_icmp_lt C.1 C.2.1 d ht (fun _ => kt u hu H locs ls hL hP hz hS) (fun hf => absurd hc hf)
theorem z_icmp_lt_f (C : zOk B Z cc own R nL) {x y : Int32} {off : Int} {tgt : Nat} (d : decode cc pc = .ok (.if_icmp .lt off, 3)) (ht : (pc : Int) + off = (tgt : Int)) (hc : ¬ x < y) (kf : zJ B Z Q o (pc + 3) lv st h z) : zJ B Z Q o pc lv (.int y :: .int x :: st) h z := fun u hu H locs ls hL hP hz hS => lv_icmp_lt C.1 C.2.1 d ht (fun ht => absurd ht hc) (fun _ => kf u hu H locs ls hL hP hz hS)
theorem z_if_ge (C : zOk B Z cc own R nL) {x : Int32} {off : Int} {tgt : Nat} (d : decode cc pc = .ok (.ifCond .ge off, 3)) (ht : (pc : Int) + off = (tgt : Int)) (kt : 0 ≤ x → zJ B Z Q o1 tgt lv st h z) (kf : ¬ 0 ≤ x → zJ B Z Q o2 (pc + 3) lv st h z) : zJ B Z Q (if 0 ≤ x then o1 else o2) pc lv (.int x :: st) h z := fun u hu H locs ls hL hP hz hS => lv_if_ge C.1 C.2.1 d ht (fun hc => kt hc u (by rw [if_pos hc] at hu; exact hu) H locs ls hL hP hz hS) (fun hc => kf hc u (by rw [if_neg hc] at hu; exact hu) H locs ls hL hP hz hS)
/-- a branch that its numbers decide -/
theorem z_if_ge_t (C : zOk B Z cc own R nL) {x : Int32} {off : Int} {tgt : Nat} (d : decode cc pc = .ok (.ifCond .ge off, 3)) (ht : (pc : Int) + off = (tgt : Int)) (hc : 0 ≤ x) (kt : zJ B Z Q o tgt lv st h z) : zJ B Z Q o pc lv (.int x :: st) h z := fun u hu H locs ls hL hP hz hS => lv_if_ge C.1 C.2.1 d ht (fun _ => kt u hu H locs ls hL hP hz hS) (fun hf => absurd hc hf)
theorem z_if_ge_f (C : zOk B Z cc own R nL) {x : Int32} {off : Int} {tgt : Nat} (d : decode cc pc = .ok (.ifCond .ge off, 3)) (ht : (pc : Int) + off = (tgt : Int)) (hc : ¬ 0 ≤ x) (kf : zJ B Z Q o (pc + 3) lv st h z) : zJ B Z Q o pc lv (.int x :: st) h z := fun u hu H locs ls hL hP hz hS => lv_if_ge C.1 C.2.1 d ht (fun ht => absurd ht hc) (fun _ => kf u hu H locs ls hL hP hz hS)
theorem z_icmp_ge (C : zOk B Z cc own R nL) {x y : Int32} {off : Int} {tgt : Nat} (d : decode cc pc = .ok (.if_icmp .ge off, 3)) (ht : (pc : Int) + off = (tgt : Int)) (kt : y ≤ x → zJ B Z Q o1 tgt lv st h z) (kf : ¬ y ≤ x → zJ B Z Q o2 (pc + 3) lv st h z) : zJ B Z Q (if y ≤ x then o1 else o2) pc lv (.int y :: .int x :: st) h z := fun u hu H locs ls hL hP hz hS => lv_icmp_ge C.1 C.2.1 d ht (fun hc => kt hc u (by rw [if_pos hc] at hu; exact hu) H locs ls hL hP hz hS) (fun hc => kf hc u (by rw [if_neg hc] at hu; exact hu) H locs ls hL hP hz hS)
/-- a branch that its numbers decide -/
theorem z_icmp_ge_t (C : zOk B Z cc own R nL) {x y : Int32} {off : Int} {tgt : Nat} (d : decode cc pc = .ok (.if_icmp .ge off, 3)) (ht : (pc : Int) + off = (tgt : Int)) (hc : y ≤ x) (kt : zJ B Z Q o tgt lv st h z) : zJ B Z Q o pc lv (.int y :: .int x :: st) h z := fun u hu H locs ls hL hP hz hS => lv_icmp_ge C.1 C.2.1 d ht (fun _ => kt u hu H locs ls hL hP hz hS) (fun hf => absurd hc hf)
theorem z_icmp_ge_f (C : zOk B Z cc own R nL) {x y : Int32} {off : Int} {tgt : Nat} (d : decode cc pc = .ok (.if_icmp .ge off, 3)) (ht : (pc : Int) + off = (tgt : Int)) (hc : ¬ y ≤ x) (kf : zJ B Z Q o (pc + 3) lv st h z) : zJ B Z Q o pc lv (.int y :: .int x :: st) h z := fun u hu H locs ls hL hP hz hS => lv_icmp_ge C.1 C.2.1 d ht (fun ht => absurd ht hc) (fun _ => kf u hu H locs ls hL hP hz hS)
theorem z_if_gt (C : zOk B Z cc own R nL) {x : Int32} {off : Int} {tgt : Nat} (d : decode cc pc = .ok (.ifCond .gt off, 3)) (ht : (pc : Int) + off = (tgt : Int)) (kt : 0 < x → zJ B Z Q o1 tgt lv st h z) (kf : ¬ 0 < x → zJ B Z Q o2 (pc + 3) lv st h z) : zJ B Z Q (if 0 < x then o1 else o2) pc lv (.int x :: st) h z := fun u hu H locs ls hL hP hz hS => lv_if_gt C.1 C.2.1 d ht (fun hc => kt hc u (by rw [if_pos hc] at hu; exact hu) H locs ls hL hP hz hS) (fun hc => kf hc u (by rw [if_neg hc] at hu; exact hu) H locs ls hL hP hz hS)
/-- a branch that its numbers decide -/
theorem z_if_gt_t (C : zOk B Z cc own R nL) {x : Int32} {off : Int} {tgt : Nat} (d : decode cc pc = .ok (.ifCond .gt off, 3)) (ht : (pc : Int) + off = (tgt : Int)) (hc : 0 < x) (kt : zJ B Z Q o tgt lv st h z) : zJ B Z Q o pc lv (.int x :: st) h z := fun u hu H locs ls hL hP hz hS => lv_if_gt C.1 C.2.1 d ht (fun _ => kt u hu H locs ls hL hP hz hS) (fun hf => absurd hc hf)
theorem z_if_gt_f (C : zOk B Z cc own R nL) {x : Int32} {off : Int} {tgt : Nat} (d : decode cc pc = .ok (.ifCond .gt off, 3)) (ht : (pc : Int) + off = (tgt : Int)) (hc : ¬ 0 < x) (kf : zJ B Z Q o (pc + 3) lv st h z) : zJ B Z Q o pc lv (.int x :: st) h z := fun u hu H locs ls hL hP hz hS => lv_if_gt C.1 C.2.1 d ht (fun ht => absurd ht hc) (fun _ => kf u hu H locs ls hL hP hz hS)
theorem z_icmp_gt (C : zOk B Z cc own R nL) {x y : Int32} {off : Int} {tgt : Nat} (d : decode cc pc = .ok (.if_icmp .gt off, 3)) (ht : (pc : Int) + off = (tgt : Int)) (kt : y < x → zJ B Z Q o1 tgt lv st h z) (kf : ¬ y < x → zJ B Z Q o2 (pc + 3) lv st h z) : zJ B Z Q (if y < x then o1 else o2) pc lv (.int y :: .int x :: st) h z := fun u hu H locs ls hL hP hz hS => lv_icmp_gt C.1 C.2.1 d ht (fun hc => kt hc u (by rw [if_pos hc] at hu; exact hu) H locs ls hL hP hz hS) (fun hc => kf hc u (by rw [if_neg hc] at hu; exact hu) H locs ls hL hP hz hS)
/-- a branch that its numbers decide -/
theorem z_icmp_gt_t (C : zOk B Z cc own R nL) {x y : Int32} {off : Int} {tgt : Nat} (d : decode cc pc = .ok (.if_icmp .gt off, 3)) (ht : (pc : Int) + off = (tgt : Int)) (hc : y < x) (kt : zJ B Z Q o tgt lv st h z) : zJ B Z Q o pc lv (.int y :: .int x :: st) h z := fun u hu H locs ls hL hP hz hS => lv_icmp_gt C.1 C.2.1 d ht (fun _ => kt u hu H locs ls hL hP hz hS) (fun hf => absurd hc hf)
theorem z_icmp_gt_f (C : zOk B Z cc own R nL) {x y : Int32} {off : Int} {tgt : Nat} (d : decode cc pc = .ok (.if_icmp .gt off, 3)) (ht : (pc : Int) + off = (tgt : Int)) (hc : ¬ y < x) (kf : zJ B Z Q o (pc + 3) lv st h z) : zJ B Z Q o pc lv (.int y :: .int x :: st) h z := fun u hu H locs ls hL hP hz hS => lv_icmp_gt C.1 C.2.1 d ht (fun ht => absurd ht hc) (fun _ => kf u hu H locs ls hL hP hz hS)
theorem z_if_le (C : zOk B Z cc own R nL) {x : Int32} {off : Int} {tgt : Nat} (d : decode cc pc = .ok (.ifCond .le off, 3)) (ht : (pc : Int) + off = (tgt : Int)) (kt : x ≤ 0 → zJ B Z Q o1 tgt lv st h z) (kf : ¬ x ≤ 0 → zJ B Z Q o2 (pc + 3) lv st h z) : zJ B Z Q (if x ≤ 0 then o1 else o2) pc lv (.int x :: st) h z := fun u hu H locs ls hL hP hz hS => lv_if_le C.1 C.2.1 d ht (fun hc => kt hc u (by rw [if_pos hc] at hu; exact hu) H locs ls hL hP hz hS) (fun hc => kf hc u (by rw [if_neg hc] at hu; exact hu) H locs ls hL hP hz hS)
/-- a branch that its numbers decide -/
theorem z_if_le_t (C : zOk B Z cc own R nL) {x : Int32} {off : Int} {tgt : Nat} (d : decode cc pc = .ok (.ifCond .le off, 3)) (ht : (pc : Int) + off = (tgt : Int)) (hc : x ≤ 0) (kt : zJ B Z Q o tgt lv st h z) : zJ B Z Q o pc lv (.int x :: st) h z := fun u hu H locs ls hL hP hz hS => lv_if_le C.1 C.2.1 d ht (fun _ => kt u hu H locs ls hL hP hz hS) (fun hf => absurd hc hf)
theorem z_if_le_f (C : zOk B Z cc own R nL) {x : Int32} {off : Int} {tgt : Nat} (d : decode cc pc = .ok (.ifCond .le off, 3)) (ht : (pc : Int) + off = (tgt : Int)) (hc : ¬ x ≤ 0) (kf : zJ B Z Q o (pc + 3) lv st h z) : zJ B Z Q o pc lv (.int x :: st) h z := fun u hu H locs ls hL hP hz hS => lv_if_le C.1 C.2.1 d ht (fun ht => absurd ht hc) (fun _ => kf u hu H locs ls hL hP hz hS)
theorem z_icmp_le (C : zOk B Z cc own R nL) {x y : Int32} {off : Int} {tgt : Nat} (d : decode cc pc = .ok (.if_icmp .le off, 3)) (ht : (pc : Int) + off = (tgt : Int)) (kt : x ≤ y → zJ B Z Q o1 tgt lv st h z) (kf : ¬ x ≤ y → zJ B Z Q o2 (pc + 3) lv st h z) : zJ B Z Q (if x ≤ y then o1 else o2) pc lv (.int y :: .int x :: st) h z := fun u hu H locs ls hL hP hz hS => lv_icmp_le C.1 C.2.1 d ht (fun hc => kt hc u (by rw [if_pos hc] at hu; exact hu) H locs ls hL hP hz hS) (fun hc => kf hc u (by rw [if_neg hc] at hu; exact hu) H locs ls hL hP hz hS)
/-- a branch that its numbers decide -/
theorem z_icmp_le_t (C : zOk B Z cc own R nL) {x y : Int32} {off : Int} {tgt : Nat} (d : decode cc pc = .ok (.if_icmp .le off, 3)) (ht : (pc : Int) + off = (tgt : Int)) (hc : x ≤ y) (kt : zJ B Z Q o tgt lv st h z) : zJ B Z Q o pc lv (.int y :: .int x :: st) h z := fun u hu H locs ls hL hP hz hS => lv_icmp_le C.1 C.2.1 d ht (fun _ => kt u hu H locs ls hL hP hz hS) (fun hf => absurd hc hf)
theorem z_icmp_le_f (C : zOk B Z cc own R nL) {x y : Int32} {off : Int} {tgt : Nat} (d : decode cc pc = .ok (.if_icmp .le off, 3)) (ht : (pc : Int) + off = (tgt : Int)) (hc : ¬ x ≤ y) (kf : zJ B Z Q o (pc + 3) lv st h z) : zJ B Z Q o pc lv (.int y :: .int x :: st) h z := fun u hu H locs ls hL hP hz hS => lv_icmp_le C.1 C.2.1 d ht (fun ht => absurd ht hc) (fun _ => kf u hu H locs ls hL hP hz hS)
theorem z_tblIn (C : zOk B Z cc own R nL) {dflt lo hi : Int} {offs : Array Int} {len : Nat} {x : Int32} {off : Int} {tgt : Nat} (d : decode cc pc = .ok (.tableswitch dflt lo hi offs, len)) (h1 : ¬ x.toInt < lo) (h2 : ¬ hi < x.toInt) (ho : offs[(x.toInt - lo).toNat]? = some off) (ht : (pc : Int) + off = (tgt : Int)) (k : zJ B Z Q o tgt lv st h z) : zJ B Z Q o pc lv (.int x :: st) h z := fun u hu H locs ls hL hP hz hS => lv_tableIn C.1 C.2.1 d h1 h2 ho ht (k u hu H locs ls hL hP hz hS)
theorem z_tblOut (C : zOk B Z cc own R nL) {dflt lo hi : Int} {offs : Array Int} {len : Nat} {x : Int32} {tgt : Nat} (d : decode cc pc = .ok (.tableswitch dflt lo hi offs, len)) (h1 : x.toInt < lo ∨ hi < x.toInt) (ht : (pc : Int) + dflt = (tgt : Int)) (k : zJ B Z Q o tgt lv st h z) : zJ B Z Q o pc lv (.int x :: st) h z := fun u hu H locs ls hL hP hz hS => lv_tableOut C.1 C.2.1 d h1 ht (k u hu H locs ls hL hP hz hS)
theorem z_lkp (C : zOk B Z cc own R nL) {dflt : Int} {ps : Array (Int × Int)} {len : Nat} {x : Int32} {off : Int} {tgt : Nat} (d : decode cc pc = .ok (.lookupswitch dflt ps, len)) (hp : (ps.toList.zip (ps.toList.drop 1)).all (fun (a, next) => a.1 < next.1) = true) (ho : Op.lookupswitch.offset ps.toList dflt x.toInt = off) (ht : (pc : Int) + off = (tgt : Int)) (k : zJ B Z Q o tgt lv st h z) : zJ B Z Q o pc lv (.int x :: st) h z := fun u hu H locs ls hL hP hz hS => lv_lookup C.1 C.2.1 d hp ho ht (k u hu H locs ls hL hP hz hS)
theorem z_ite {c : Prop} [Decidable c] (kt : c → zJ B Z Q o1 pc lv st h z) (kf : ¬ c → zJ B Z Q o2 pc lv st h z) : zJ B Z Q (if c then o1 else o2) pc lv st h z := by
  by_cases hc : c
  · rw [if_pos hc]; exact kt hc
  · rw [if_neg hc]; exact kf hc
theorem z_bool {x : Int32} {F : Int32 → Option α} (k : x = 0 ∨ x = 1 → zJ B Z Q (F x) pc lv st h z) : zJ B Z Q ((zB x).bind F) pc lv st h z := by
  unfold zB
  by_cases hc : x = 0 ∨ x = 1
  · rw [if_pos hc]; exact k hc
  · rw [if_neg hc]; exact z_none
theorem z_fix1 {A1 : Type} {F : (A1 → Option α) → A1 → Option α} (P : (A1 → Option α) → Prop) (h0 : P (fun _ => none)) (hs : ∀ rec, P rec → P (F rec)) : ∀ n, P (zfix1 F n)
  | 0 => h0
  | n + 1 => hs _ (z_fix1 P h0 hs n)
theorem z_fix2 {A1 A2 : Type} {F : (A1 → A2 → Option α) → A1 → A2 → Option α} (P : (A1 → A2 → Option α) → Prop) (h0 : P (fun _ _ => none)) (hs : ∀ rec, P rec → P (F rec)) : ∀ n, P (zfix2 F n)
  | 0 => h0
  | n + 1 => hs _ (z_fix2 P h0 hs n)
theorem z_fix3 {A1 A2 A3 : Type} {F : (A1 → A2 → A3 → Option α) → A1 → A2 → A3 → Option α} (P : (A1 → A2 → A3 → Option α) → Prop) (h0 : P (fun _ _ _ => none)) (hs : ∀ rec, P rec → P (F rec)) : ∀ n, P (zfix3 F n)
  | 0 => h0
  | n + 1 => hs _ (z_fix3 P h0 hs n)
theorem z_fix4 {A1 A2 A3 A4 : Type} {F : (A1 → A2 → A3 → A4 → Option α) → A1 → A2 → A3 → A4 → Option α} (P : (A1 → A2 → A3 → A4 → Option α) → Prop) (h0 : P (fun _ _ _ _ => none)) (hs : ∀ rec, P rec → P (F rec)) : ∀ n, P (zfix4 F n)
  | 0 => h0
  | n + 1 => hs _ (z_fix4 P h0 hs n)
theorem z_fix5 {A1 A2 A3 A4 A5 : Type} {F : (A1 → A2 → A3 → A4 → A5 → Option α) → A1 → A2 → A3 → A4 → A5 → Option α} (P : (A1 → A2 → A3 → A4 → A5 → Option α) → Prop) (h0 : P (fun _ _ _ _ _ => none)) (hs : ∀ rec, P rec → P (F rec)) : ∀ n, P (zfix5 F n)
  | 0 => h0
  | n + 1 => hs _ (z_fix5 P h0 hs n)
theorem z_fix6 {A1 A2 A3 A4 A5 A6 : Type} {F : (A1 → A2 → A3 → A4 → A5 → A6 → Option α) → A1 → A2 → A3 → A4 → A5 → A6 → Option α} (P : (A1 → A2 → A3 → A4 → A5 → A6 → Option α) → Prop) (h0 : P (fun _ _ _ _ _ _ => none)) (hs : ∀ rec, P rec → P (F rec)) : ∀ n, P (zfix6 F n)
  | 0 => h0
  | n + 1 => hs _ (z_fix6 P h0 hs n)
theorem z_fix7 {A1 A2 A3 A4 A5 A6 A7 : Type} {F : (A1 → A2 → A3 → A4 → A5 → A6 → A7 → Option α) → A1 → A2 → A3 → A4 → A5 → A6 → A7 → Option α} (P : (A1 → A2 → A3 → A4 → A5 → A6 → A7 → Option α) → Prop) (h0 : P (fun _ _ _ _ _ _ _ => none)) (hs : ∀ rec, P rec → P (F rec)) : ∀ n, P (zfix7 F n)
  | 0 => h0
  | n + 1 => hs _ (z_fix7 P h0 hs n)
theorem z_fix8 {A1 A2 A3 A4 A5 A6 A7 A8 : Type} {F : (A1 → A2 → A3 → A4 → A5 → A6 → A7 → A8 → Option α) → A1 → A2 → A3 → A4 → A5 → A6 → A7 → A8 → Option α} (P : (A1 → A2 → A3 → A4 → A5 → A6 → A7 → A8 → Option α) → Prop) (h0 : P (fun _ _ _ _ _ _ _ _ => none)) (hs : ∀ rec, P rec → P (F rec)) : ∀ n, P (zfix8 F n)
  | 0 => h0
  | n + 1 => hs _ (z_fix8 P h0 hs n)
theorem z_istoreL (C : zOk B Z cc own R nL) {i : Nat} {x : Int32} {F : Int32 → Option α} {lv' : Int32 → List (Nat × Value)} (d : decode cc pc = .ok (.istore i, 2)) (hn : i < nL) (hl : ∀ y, (i, .int y) :: lv.filter (fun q => !(q.1 == i) && !(q.1 + 1 == i && q.2.category == 2)) = lv' y) (k : ∀ y, zJ B Z Q (F y) (pc + 2) (lv' y) st h z) : zJ B Z Q (zlet x F) pc lv (.int x :: st) h z := z_istore C d hn (hl x) (k x)
theorem z_istore_nL (C : zOk B Z cc own R nL) {j : Fin 4} {i : Nat} {x : Int32} {F : Int32 → Option α} {lv' : Int32 → List (Nat × Value)} (d : decode cc pc = .ok (.istore_n j, 1)) (hi : (j : Nat) = i) (hn : i < nL) (hl : ∀ y, (i, .int y) :: lv.filter (fun q => !(q.1 == i) && !(q.1 + 1 == i && q.2.category == 2)) = lv' y) (k : ∀ y, zJ B Z Q (F y) (pc + 1) (lv' y) st h z) : zJ B Z Q (zlet x F) pc lv (.int x :: st) h z := z_istore_n C d hi hn (hl x) (k x)
theorem z_lstoreL (C : zOk B Z cc own R nL) {i : Nat} {x : Int64} {F : Int64 → Option α} {lv' : Int64 → List (Nat × Value)} (d : decode cc pc = .ok (.lstore i, 2)) (hn : i + 1 < nL) (hl : ∀ y, (i, .long y) :: lv.filter (fun q => !(q.1 == i) && (!(q.1 == i + 1) && !(q.1 + 1 == i && q.2.category == 2))) = lv' y) (k : ∀ y, zJ B Z Q (F y) (pc + 2) (lv' y) st h z) : zJ B Z Q (zlet x F) pc lv (.long x :: st) h z := z_lstore C d hn (hl x) (k x)
theorem z_lstore_nL (C : zOk B Z cc own R nL) {j : Fin 4} {i : Nat} {x : Int64} {F : Int64 → Option α} {lv' : Int64 → List (Nat × Value)} (d : decode cc pc = .ok (.lstore_n j, 1)) (hi : (j : Nat) = i) (hn : i + 1 < nL) (hl : ∀ y, (i, .long y) :: lv.filter (fun q => !(q.1 == i) && (!(q.1 == i + 1) && !(q.1 + 1 == i && q.2.category == 2))) = lv' y) (k : ∀ y, zJ B Z Q (F y) (pc + 1) (lv' y) st h z) : zJ B Z Q (zlet x F) pc lv (.long x :: st) h z := z_lstore_n C d hi hn (hl x) (k x)
theorem z_dstoreL (C : zOk B Z cc own R nL) {i : Nat} {x : UInt64} {F : UInt64 → Option α} {lv' : UInt64 → List (Nat × Value)} (d : decode cc pc = .ok (.dstore i, 2)) (hn : i + 1 < nL) (hl : ∀ y, (i, .double y) :: lv.filter (fun q => !(q.1 == i) && (!(q.1 == i + 1) && !(q.1 + 1 == i && q.2.category == 2))) = lv' y) (k : ∀ y, zJ B Z Q (F y) (pc + 2) (lv' y) st h z) : zJ B Z Q (zlet x F) pc lv (.double x :: st) h z := z_dstore C d hn (hl x) (k x)
theorem z_dstore_nL (C : zOk B Z cc own R nL) {j : Fin 4} {i : Nat} {x : UInt64} {F : UInt64 → Option α} {lv' : UInt64 → List (Nat × Value)} (d : decode cc pc = .ok (.dstore_n j, 1)) (hi : (j : Nat) = i) (hn : i + 1 < nL) (hl : ∀ y, (i, .double y) :: lv.filter (fun q => !(q.1 == i) && (!(q.1 == i + 1) && !(q.1 + 1 == i && q.2.category == 2))) = lv' y) (k : ∀ y, zJ B Z Q (F y) (pc + 1) (lv' y) st h z) : zJ B Z Q (zlet x F) pc lv (.double x :: st) h z := z_dstore_n C d hi hn (hl x) (k x)
theorem z_iincL (C : zOk B Z cc own R nL) {i : Nat} {n : Int} {x v : Int32} {F : Int32 → Option α} {lv' : Int32 → List (Nat × Value)} (d : decode cc pc = .ok (.iinc i n, 3)) (j : Nat) (hk : lv[j]? = some (i, .int x)) (hv : x + Int32.ofInt n = v) (hn : i < nL) (hl : ∀ y, (i, .int y) :: lv.filter (fun q => !(q.1 == i) && !(q.1 + 1 == i && q.2.category == 2)) = lv' y) (k : ∀ y, zJ B Z Q (F y) (pc + 3) (lv' y) st h z) : zJ B Z Q (zlet v F) pc lv st h z := z_iinc C d j hk hv hn (hl v) (k v)
/-- a quotient of doubles that is no NaN -/
def zdd (x y : UInt64) : Option UInt64 := if (FP.ddiv x y) &&& 0x7fffffffffffffff ≤ 0x7ff0000000000000 then some (FP.ddiv x y) else none
theorem z_dd (C : zOk B Z cc own R nL) {x y : UInt64} {F : UInt64 → Option α} (d : decode cc pc = .ok (.ddiv, 1)) (k : ∀ v, zJ B Z Q (F v) (pc + 1) lv (.double v :: st) h z) : zJ B Z Q ((zdd x y).bind F) pc lv (.double y :: .double x :: st) h z := by
  unfold zdd
  by_cases hc : (FP.ddiv x y) &&& 0x7fffffffffffffff ≤ 0x7ff0000000000000
  · rw [if_pos hc]
    exact z_ddiv C d hc (k _)
  · rw [if_neg hc]; exact z_none
theorem z_irem (C : zOk B Z cc own R nL) {x y : Int32} {F : Int32 → Option α} (d : decode cc pc = .ok (.irem, 1)) (k : ∀ w, zJ B Z Q (F w) (pc + 1) lv (.int (zrem x y) :: st) h z) : zJ B Z Q ((zdiv x y).bind F) pc lv (.int y :: .int x :: st) h z := by
  unfold zdiv
  by_cases hy : y = 0
  · rw [if_pos hy]; exact z_none
  · rw [if_neg hy]
    exact z_iremc C d hy (k _)
theorem z_out (x : Int32) {lo hi : Int} (hne : ∀ k : Int, lo ≤ k → k ≤ hi → ¬ x = Int32.ofInt k) : x.toInt < lo ∨ hi < x.toInt := by
  by_cases h1 : x.toInt < lo
  · exact Or.inl h1
  · by_cases h2 : hi < x.toInt
    · exact Or.inr h2
    · exact absurd (Int32.ofInt_toInt x).symm (hne x.toInt (by omega) (by omega))
theorem zOk.nest {B : Nat} {Z : zC} {cc : ByteArray} {own : String} {R : Room} {nL : Nat} (C : zOk B Z cc own R nL) : va_Nw (.methodLinkNest "StockLines$Game" 167 ⟨"StockLines", "isTown", "(I)Z"⟩ "StockLines") Z.1.2.2.2.2 := C.2.2.2.2.2.2.2.2.1.1.2.2.2
abbrev z00 (Z : zC) : Nat × Nat × Nat := (0, 0, Z.1.2.2.2.2.heap.size)
/-! the rows that read and write -/
theorem zO_of {h : zH} {a ci : Nat} {fs : List Value} (e : zO h a ci = some fs) : h a = some (.inr (ci, fs)) := by
  unfold zO at e
  split at e
  · rename_i c fs' he
    by_cases hc : c = ci
    · rw [if_pos hc] at e
      cases e
      rw [he, hc]
    · rw [if_neg hc] at e
      cases e
  · cases e
theorem zIA_of {h : zH} {a n : Nat} {f : Nat → Int32} (e : zIA h a = some (n, f)) : h a = some (.inl (0, n, .inl f)) := by
  unfold zIA at e
  split at e
  · rename_i c n' f' he
    by_cases hc : c = 0
    · rw [if_pos hc] at e
      cases e
      rw [he, hc]
    · rw [if_neg hc] at e
      cases e
  · cases e
theorem zLA_of {h : zH} {a n : Nat} {f : Nat → Int64} (e : zLA h a = some (n, f)) : h a = some (.inl (1, n, .inr (.inl f))) := by
  unfold zLA at e
  split at e
  · rename_i c n' f' he
    by_cases hc : c = 1
    · rw [if_pos hc] at e
      cases e
      rw [he, hc]
    · rw [if_neg hc] at e
      cases e
  · cases e
theorem zRA_of {h : zH} {a c n : Nat} {f : Nat → Option Nat} (e : zRA h a c = some (n, f)) : h a = some (.inl (c, n, .inr (.inr (.inr (.inr f))))) := by
  unfold zRA at e
  split at e
  · rename_i c' n' f' he
    by_cases hc : c' = c
    · rw [if_pos hc] at e
      cases e
      rw [he, hc]
    · rw [if_neg hc] at e
      cases e
  · cases e
theorem zgI_of {h : zH} {a ci k : Nat} {x : Int32} (e : zgI h a ci k = some x) : ∃ fs, h a = some (.inr (ci, fs)) ∧ fs[k]? = some (.int x) := by
  unfold zgI at e
  split at e
  · rename_i fs he
    split at e
    · rename_i y hy
      cases e
      exact ⟨fs, zO_of he, hy⟩
    · cases e
  · cases e
theorem zgL_of {h : zH} {a ci k : Nat} {x : Int64} (e : zgL h a ci k = some x) : ∃ fs, h a = some (.inr (ci, fs)) ∧ fs[k]? = some (.long x) := by
  unfold zgL at e
  split at e
  · rename_i fs he
    split at e
    · rename_i y hy
      cases e
      exact ⟨fs, zO_of he, hy⟩
    · cases e
  · cases e
theorem zgR_of {h : zH} {a ci k x : Nat} (e : zgR h a ci k = some x) : ∃ fs, h a = some (.inr (ci, fs)) ∧ fs[k]? = some (.ref x) := by
  unfold zgR at e
  split at e
  · rename_i fs he
    split at e
    · rename_i y hy
      cases e
      exact ⟨fs, zO_of he, hy⟩
    · cases e
  · cases e
theorem zp_of {h h1 : zH} {a ci k : Nat} {v : Value} (e : zp h a ci k v = some h1) : ∃ fs, h a = some (.inr (ci, fs)) ∧ k < fs.length ∧ h1 = zset h a (.inr (ci, fs.set k v)) := by
  unfold zp at e
  split at e
  · rename_i fs he
    by_cases hk : k < fs.length
    · rw [if_pos hk] at e
      cases e
      exact ⟨fs, zO_of he, hk, rfl⟩
    · rw [if_neg hk] at e
      cases e
  · cases e
theorem zai_of {h : zH} {a : Nat} {i x : Int32} (e : zai h a i = some x) : ∃ n f, h a = some (.inl (0, n, .inl f)) ∧ vp_in i n ∧ f i.toNatClampNeg = x := by
  unfold zai at e
  split at e
  · rename_i n f he
    by_cases hk : i < 0 ∨ n ≤ i.toNatClampNeg
    · rw [if_pos hk] at e
      cases e
    · rw [if_neg hk] at e
      cases e
      exact ⟨n, f, zIA_of he, hk, rfl⟩
  · cases e
theorem zsi_of {h h1 : zH} {a : Nat} {i x : Int32} (e : zsi h a i x = some h1) : ∃ n f, h a = some (.inl (0, n, .inl f)) ∧ vp_in i n ∧ h1 = zset h a (.inl (0, n, .inl (upd f i.toNatClampNeg x))) := by
  unfold zsi at e
  split at e
  · rename_i n f he
    by_cases hk : i < 0 ∨ n ≤ i.toNatClampNeg
    · rw [if_pos hk] at e
      cases e
    · rw [if_neg hk] at e
      cases e
      exact ⟨n, f, zIA_of he, hk, rfl⟩
  · cases e
theorem zal_of {h : zH} {a : Nat} {i : Int32} {x : Int64} (e : zal h a i = some x) : ∃ n f, h a = some (.inl (1, n, .inr (.inl f))) ∧ vp_in i n ∧ f i.toNatClampNeg = x := by
  unfold zal at e
  split at e
  · rename_i n f he
    by_cases hk : i < 0 ∨ n ≤ i.toNatClampNeg
    · rw [if_pos hk] at e
      cases e
    · rw [if_neg hk] at e
      cases e
      exact ⟨n, f, zLA_of he, hk, rfl⟩
  · cases e
theorem zsl_of {h h1 : zH} {a : Nat} {i : Int32} {x : Int64} (e : zsl h a i x = some h1) : ∃ n f, h a = some (.inl (1, n, .inr (.inl f))) ∧ vp_in i n ∧ h1 = zset h a (.inl (1, n, .inr (.inl (vp_updL f i.toNatClampNeg x)))) := by
  unfold zsl at e
  split at e
  · rename_i n f he
    by_cases hk : i < 0 ∨ n ≤ i.toNatClampNeg
    · rw [if_pos hk] at e
      cases e
    · rw [if_neg hk] at e
      cases e
      exact ⟨n, f, zLA_of he, hk, rfl⟩
  · cases e
theorem zar_of {h : zH} {a c r : Nat} {i : Int32} (e : zar h a c i = some r) : ∃ n f, h a = some (.inl (c, n, .inr (.inr (.inr (.inr f))))) ∧ vp_in i n ∧ f i.toNatClampNeg = some r := by
  unfold zar at e
  split at e
  · rename_i n f he
    by_cases hk : i < 0 ∨ n ≤ i.toNatClampNeg
    · rw [if_pos hk] at e
      cases e
    · rw [if_neg hk] at e
      exact ⟨n, f, zRA_of he, hk, e⟩
  · cases e
theorem zsr_of {h h1 : zH} {a c ci r : Nat} {i : Int32} (e : zsr h a c ci i r = some h1) : ∃ n f fs, h a = some (.inl (c, n, .inr (.inr (.inr (.inr f))))) ∧ vp_in i n ∧ h r = some (.inr (ci, fs)) ∧ h1 = zset h a (.inl (c, n, .inr (.inr (.inr (.inr (va_up f i.toNatClampNeg (some r))))))) := by
  unfold zsr at e
  split at e
  · rename_i n f he
    by_cases hk : i < 0 ∨ n ≤ i.toNatClampNeg
    · rw [if_pos hk] at e
      cases e
    · rw [if_neg hk] at e
      split at e
      · rename_i fs hf
        cases e
        exact ⟨n, f, fs, zRA_of he, hk, zO_of hf, rfl⟩
      · cases e
  · cases e
theorem zlen_of {h : zH} {a : Nat} {x : Int32} (e : zlen h a = some x) : ∃ n f, h a = some (.inl (0, n, .inl f)) ∧ Int32.ofNat n = x := by
  unfold zlen at e
  split at e
  · rename_i n f he
    cases e
    exact ⟨n, f, zIA_of he, rfl⟩
  · cases e
theorem zcp_of {h h1 : zH} {a b : Nat} {sp dp n : Int32} (e : zcp h a sp b dp n = some h1) : ∃ n0 f n1 g, h a = some (.inl (0, n0, .inl f)) ∧ h b = some (.inl (0, n1, .inl g)) ∧ ¬ sp < 0 ∧ ¬ dp < 0 ∧ ¬ n < 0 ∧ sp.toNatClampNeg + n.toNatClampNeg ≤ n0 ∧ dp.toNatClampNeg + n.toNatClampNeg ≤ n1 ∧ h1 = zset h b (.inl (0, n1, .inl (va_cpy f g sp.toNatClampNeg dp.toNatClampNeg n.toNatClampNeg))) := by
  unfold zcp at e
  split at e
  · rename_i n0 f he
    split at e
    · rename_i n1 g hg
      by_cases hk : sp < 0 ∨ dp < 0 ∨ n < 0 ∨ n0 < sp.toNatClampNeg + n.toNatClampNeg ∨ n1 < dp.toNatClampNeg + n.toNatClampNeg
      · rw [if_pos hk] at e
        cases e
      · rw [if_neg hk] at e
        cases e
        simp only [not_or] at hk
        exact ⟨n0, f, n1, g, zIA_of he, zIA_of hg, hk.1, hk.2.1, hk.2.2.1, Nat.not_lt.mp hk.2.2.2.1, Nat.not_lt.mp hk.2.2.2.2, rfl⟩
    · cases e
  · cases e
/-- what is known of kind ci of objects -/
def zCl (ci : Nat) (C : String) (T : u_T) (N : Nat) (ty : Nat → FieldType) : Prop := vwCl[ci]? = some (C, T, N) ∧ (∀ w ∈ u_ws C T N, w ∈ zWs) ∧ (∀ k, k < N → parseFieldDescriptor (T k).2.2.1 = some (ty k)) ∧ ∀ a, a < N → ∀ b, b < N → a ≠ b → (T a).2.1 ≠ (T b).2.1
theorem zc0 : zCl 0 RX0 TX0 8 tyX0 := ⟨rfl, inlX0, tyX0_ok, nmX0⟩
theorem zc1 : zCl 1 RX1 TX1 15 tyX1 := ⟨rfl, inlX1, tyX1_ok, nmX1⟩
theorem zc2 : zCl 2 RX2 TX2 2 tyX2 := ⟨rfl, inlX2, tyX2_ok, nmX2⟩
theorem zc3 : zCl 3 RX3 TX3 8 tyX3 := ⟨rfl, inlX3, tyX3_ok, nmX3⟩
theorem zc4 : zCl 4 RX4 TX4 2 tyX4 := ⟨rfl, inlX4, tyX4_ok, nmX4⟩
theorem zc5 : zCl 5 RX5 TX5 4 tyX5 := ⟨rfl, inlX5, tyX5_ok, nmX5⟩
theorem zc6 : zCl 6 RX6 TX6 17 tyX6 := ⟨rfl, inlX6, tyX6_ok, nmX6⟩
theorem zmap_at {B k : Nat} {fs : List Value} {v : Value} (e : fs[k]? = some v) : (fs.map (zv B))[k]? = some (zv B v) := by rw [List.getElem?_map, e]; rfl
theorem z_get0 (C : zOk B Z cc own R nL) {ci N index a : Nat} {Cn : String} {T : u_T} {ty : Nat → FieldType} (hc : zCl ci Cn T N ty) (k : Nat) (hk : k < N) (hw : Cond.fieldLink own index (T k).1 (T k).2.1 (T k).2.2.1 ∈ zWs) (d : decode cc pc = .ok (.getfield index, 3)) {fs : List Value} {v : Value} (ha : h a = some (.inr (ci, fs))) (hv : fs[k]? = some v) (kk : zJ B Z Q o (pc + 3) lv (zv B v :: st) h z) : zJ B Z Q o pc lv (.ref (B + a) :: st) h z := fun u hu H locs ls hL hP hz hS =>
  va_get (D := Z.2.2.1) (ci := ci) (v := zv B v) (C := Cn) (T := T) (N := N) C.1 C.2.1 C.2.2.1 hc.2.1 C.2.2.2.1 C.2.2.2.2.1 (hP.one ha) 0 rfl hc.1 k hk (C.2.2.1 _ hw) (fun _ h9 => h9) (zmap_at hv) d (kk u hu H locs ls hL hP hz hS)
theorem z_getI (C : zOk B Z cc own R nL) {ci N index a : Nat} {Cn : String} {T : u_T} {ty : Nat → FieldType} {F : Int32 → Option α} (hc : zCl ci Cn T N ty) (k : Nat) (hk : k < N) (hw : Cond.fieldLink own index (T k).1 (T k).2.1 (T k).2.2.1 ∈ zWs) (d : decode cc pc = .ok (.getfield index, 3)) (kk : ∀ x, zJ B Z Q (F x) (pc + 3) lv (.int x :: st) h z) : zJ B Z Q ((zgI h a ci k).bind F) pc lv (.ref (B + a) :: st) h z :=
  z_bind (fun x hx => by
    obtain ⟨fs, e1, e2⟩ := zgI_of hx
    exact z_get0 C hc k hk hw d e1 e2 (kk x))
theorem z_getL (C : zOk B Z cc own R nL) {ci N index a : Nat} {Cn : String} {T : u_T} {ty : Nat → FieldType} {F : Int64 → Option α} (hc : zCl ci Cn T N ty) (k : Nat) (hk : k < N) (hw : Cond.fieldLink own index (T k).1 (T k).2.1 (T k).2.2.1 ∈ zWs) (d : decode cc pc = .ok (.getfield index, 3)) (kk : ∀ x, zJ B Z Q (F x) (pc + 3) lv (.long x :: st) h z) : zJ B Z Q ((zgL h a ci k).bind F) pc lv (.ref (B + a) :: st) h z :=
  z_bind (fun x hx => by
    obtain ⟨fs, e1, e2⟩ := zgL_of hx
    exact z_get0 C hc k hk hw d e1 e2 (kk x))
theorem z_getR (C : zOk B Z cc own R nL) {ci N index a : Nat} {Cn : String} {T : u_T} {ty : Nat → FieldType} {F : Nat → Option α} (hc : zCl ci Cn T N ty) (k : Nat) (hk : k < N) (hw : Cond.fieldLink own index (T k).1 (T k).2.1 (T k).2.2.1 ∈ zWs) (d : decode cc pc = .ok (.getfield index, 3)) (kk : ∀ x, zJ B Z Q (F x) (pc + 3) lv (.ref (B + x) :: st) h z) : zJ B Z Q ((zgR h a ci k).bind F) pc lv (.ref (B + a) :: st) h z :=
  z_bind (fun x hx => by
    obtain ⟨fs, e1, e2⟩ := zgR_of hx
    exact z_get0 C hc k hk hw d e1 e2 (kk x))
theorem z_put0 (C : zOk B Z cc own R nL) {ci N index a : Nat} {Cn : String} {T : u_T} {ty : Nat → FieldType} (hc : zCl ci Cn T N ty) (k : Nat) (hk : k < N) (hw : Cond.fieldLink own index (T k).1 (T k).2.1 (T k).2.2.1 ∈ zWs) (hfin : (T k).2.2.2 = false) (d : decode cc pc = .ok (.putfield index, 3)) {v : Value} {F : zH → Option α} (hn : narrow (ty k) (zv B v) = zv B v) (hfit : fits (ty k) (zv B v) = true) (kk : ∀ h1, zp h a ci k v = some h1 → zJ B Z Q (F h1) (pc + 3) lv st h1 z) : zJ B Z Q ((zp h a ci k v).bind F) pc lv (zv B v :: .ref (B + a) :: st) h z :=
  z_bind (fun h1 hh u hu H locs ls hL hP hz hS => by
    have hkk := kk h1 hh
    obtain ⟨fs, e1, e2, rfl⟩ := zp_of hh
    have hl : k < (fs.map (zv B)).length := by rw [List.length_map]; exact e2
    have hap := va_apart (own := own) C.2.2.1 hc.2.1 ty hc.2.2.1 hc.2.2.2 C.2.2.2.2.1 hc.1
    obtain ⟨r, h1', cell, q1, q2, q3, q4⟩ := hP a _ e1
    have hr : r = (Cn, T, N) := Option.some.inj (h1'.symm.trans hc.1)
    subst hr
    obtain ⟨hSl, hfc, kC, hkC, hkind⟩ := C.2.2.2.2.1.1 ci _ hc.1
    obtain ⟨cf, kf, fi, f, hi, hsl⟩ := hSl k hk
    have hlay := C.2.2.1 _ (hc.2.1 _ (u_in_lay hk))
    unfold u_lay at hlay
    rw [if_neg (by rw [hfin]; decide)] at hlay
    have hst := (u_facts hfc hkC (u_lays C.2.2.1 hc.2.1 hk) hi).1
    have h6 := u_store hfc hkC hkind hlay hi (hc.2.2.1 k hk) hn hfit
    refine W.putK C.1 C.2.1 (f := f) ⟨C.2.2.2.1, C.2.2.1 _ hw, ⟨_, _, _, hi⟩, hst⟩ (by rw [q2]; exact h6) q1 q3 (by rw [hsl]; exact k2_hasslot (q4 k hk)) rfl rfl d fun H' g1 g2 g3 => ?_
    rw [hsl] at g1 ⊢
    refine hkk u hu H' _ ls hL (hP.set ?_ g3) (by rw [g2]; exact hz) (hS.put g2 g3 (Nat.le_add_right B a))
    refine ⟨_, hc.1, t_OB.to (V := updV (vp_V (fs.map (zv B))) k (zv B v)) ⟨_, g1, q2, q3, t_set q4 hap hk _⟩ (fun j _ => ?_)⟩
    rw [show (fs.set k v).map (zv B) = (fs.map (zv B)).set k (zv B v) from List.map_set]
    exact vp_updV_set hl _ j)
theorem z_putI (C : zOk B Z cc own R nL) {ci N index a : Nat} {Cn : String} {T : u_T} {ty : Nat → FieldType} (hc : zCl ci Cn T N ty) (k : Nat) (hk : k < N) (hw : Cond.fieldLink own index (T k).1 (T k).2.1 (T k).2.2.1 ∈ zWs) (hfin : (T k).2.2.2 = false) (hty : ty k = .int) (d : decode cc pc = .ok (.putfield index, 3)) {x : Int32} {F : zH → Option α} (kk : ∀ h1, zJ B Z Q (F h1) (pc + 3) lv st h1 z) : zJ B Z Q ((zp h a ci k (.int x)).bind F) pc lv (.int x :: .ref (B + a) :: st) h z :=
  z_put0 (v := .int x) C hc k hk hw hfin d (by rw [hty]; rfl) (by rw [hty]; rfl) (fun h1 _ => kk h1)
theorem z_putL (C : zOk B Z cc own R nL) {ci N index a : Nat} {Cn : String} {T : u_T} {ty : Nat → FieldType} (hc : zCl ci Cn T N ty) (k : Nat) (hk : k < N) (hw : Cond.fieldLink own index (T k).1 (T k).2.1 (T k).2.2.1 ∈ zWs) (hfin : (T k).2.2.2 = false) (hty : ty k = .long) (d : decode cc pc = .ok (.putfield index, 3)) {x : Int64} {F : zH → Option α} (kk : ∀ h1, zJ B Z Q (F h1) (pc + 3) lv st h1 z) : zJ B Z Q ((zp h a ci k (.long x)).bind F) pc lv (.long x :: .ref (B + a) :: st) h z :=
  z_put0 (v := .long x) C hc k hk hw hfin d (by rw [hty]; rfl) (by rw [hty]; rfl) (fun h1 _ => kk h1)
theorem z_putZ (C : zOk B Z cc own R nL) {ci N index a : Nat} {Cn : String} {T : u_T} {ty : Nat → FieldType} (hc : zCl ci Cn T N ty) (k : Nat) (hk : k < N) (hw : Cond.fieldLink own index (T k).1 (T k).2.1 (T k).2.2.1 ∈ zWs) (hfin : (T k).2.2.2 = false) (hty : ty k = .boolean) (d : decode cc pc = .ok (.putfield index, 3)) {x : Int32} (hx : x = 0 ∨ x = 1) {F : zH → Option α} (kk : ∀ h1, zJ B Z Q (F h1) (pc + 3) lv st h1 z) : zJ B Z Q ((zp h a ci k (.int x)).bind F) pc lv (.int x :: .ref (B + a) :: st) h z :=
  z_put0 (v := .int x) C hc k hk hw hfin d (by rw [hty]; rcases hx with rfl | rfl <;> rfl) (by rw [hty]; rcases hx with rfl | rfl <;> rfl) (fun h1 _ => kk h1)
theorem z_putR (C : zOk B Z cc own R nL) {ci N index a : Nat} {Cn : String} {T : u_T} {ty : Nat → FieldType} (hc : zCl ci Cn T N ty) (k : Nat) (hk : k < N) (hw : Cond.fieldLink own index (T k).1 (T k).2.1 (T k).2.2.1 ∈ zWs) (hfin : (T k).2.2.2 = false) {nm : String} (hty : ty k = .object nm) (d : decode cc pc = .ok (.putfield index, 3)) {x : Nat} {F : zH → Option α} (kk : ∀ h1, zJ B Z Q (F h1) (pc + 3) lv st h1 z) : zJ B Z Q ((zp h a ci k (.ref x)).bind F) pc lv (.ref (B + x) :: .ref (B + a) :: st) h z :=
  z_put0 (v := .ref x) C hc k hk hw hfin d (by rw [hty]; rfl) (by rw [hty]; rfl) (fun h1 _ => kk h1)
theorem z_aiload (C : zOk B Z cc own R nL) {a : Nat} {i : Int32} {F : Int32 → Option α} (d : decode cc pc = .ok (.iaload, 1)) (kk : ∀ x, zJ B Z Q (F x) (pc + 1) lv (.int x :: st) h z) : zJ B Z Q ((zai h a i).bind F) pc lv (.int i :: .ref (B + a) :: st) h z :=
  z_bind (fun x hx u hu H locs ls hL hP hz hS => by
    obtain ⟨n, f, e1, e2, e3⟩ := zai_of hx
    subst e3
    exact va_iald (f := f) (n := n) C.1 C.2.1 C.2.2.2.2.1 (hP.one e1) 0 0 rfl rfl e2 d (kk _ u hu H locs ls hL hP hz hS))
theorem z_alload (C : zOk B Z cc own R nL) {a : Nat} {i : Int32} {F : Int64 → Option α} (d : decode cc pc = .ok (.laload, 1)) (kk : ∀ x, zJ B Z Q (F x) (pc + 1) lv (.long x :: st) h z) : zJ B Z Q ((zal h a i).bind F) pc lv (.int i :: .ref (B + a) :: st) h z :=
  z_bind (fun x hx u hu H locs ls hL hP hz hS => by
    obtain ⟨n, f, e1, e2, e3⟩ := zal_of hx
    subst e3
    exact va_lald (f := f) (n := n) C.1 C.2.1 C.2.2.2.2.1 (hP.one e1) 0 1 rfl rfl e2 d (kk _ u hu H locs ls hL hP hz hS))
theorem z_aistore (C : zOk B Z cc own R nL) {a : Nat} {i x : Int32} {F : zH → Option α} (d : decode cc pc = .ok (.iastore, 1)) (kk : ∀ h1, zJ B Z Q (F h1) (pc + 1) lv st h1 z) : zJ B Z Q ((zsi h a i x).bind F) pc lv (.int x :: .int i :: .ref (B + a) :: st) h z :=
  z_bind (fun h1 hh u hu H locs ls hL hP hz hS => by
    have hkk := kk h1
    obtain ⟨n, f, e1, e2, rfl⟩ := zsi_of hh
    refine W.iast C.1 C.2.1 (hP a _ e1) ((C.2.2.2.2.1.2 0 _ rfl).1 n (fun j => .int (f j))) (fun q => by cases q) (by show ¬ (i < 0 ∨ (arrV _ _ _).slots.size ≤ _); rw [arrV_size]; exact e2) rfl rfl d fun H1 g1 g2 g3 => ?_
    refine hkk u hu H1 _ ls hL (hP.set ?_ g3) (by rw [g2]; exact hz) (hS.put g2 g3 (Nat.le_add_right B a))
    show H1[B + a]? = some (vp_cell _ _)
    rw [g1]
    show some ((vp_cell (Z.2.2.2.1 0) (n, .inl f)).setSlot _ _) = some (vp_cell (Z.2.2.2.1 0) (n, .inl _))
    rw [vp_cell_i, vp_cell_i, arrV_store]
    congr 2
    funext q
    by_cases hq : q = i.toNatClampNeg
    · subst hq
      simp [updV, upd]
    · simp [updV, upd, hq])
theorem z_alstore (C : zOk B Z cc own R nL) {a : Nat} {i : Int32} {x : Int64} {F : zH → Option α} (d : decode cc pc = .ok (.lastore, 1)) (kk : ∀ h1, zJ B Z Q (F h1) (pc + 1) lv st h1 z) : zJ B Z Q ((zsl h a i x).bind F) pc lv (.long x :: .int i :: .ref (B + a) :: st) h z :=
  z_bind (fun h1 hh u hu H locs ls hL hP hz hS => by
    have hkk := kk h1
    obtain ⟨n, f, e1, e2, rfl⟩ := zsl_of hh
    refine W.last C.1 C.2.1 (hP a _ e1) ((C.2.2.2.2.1.2 1 _ rfl).1 n (fun j => .long (f j))) (fun q => by cases q) (by show ¬ (i < 0 ∨ (arrV _ _ _).slots.size ≤ _); rw [arrV_size]; exact e2) rfl rfl d fun H1 g1 g2 g3 => ?_
    refine hkk u hu H1 _ ls hL (hP.set ?_ g3) (by rw [g2]; exact hz) (hS.put g2 g3 (Nat.le_add_right B a))
    show H1[B + a]? = some (vp_cell _ _)
    rw [g1]
    show some ((vp_cell (Z.2.2.2.1 1) (n, .inr (.inl f))).setSlot _ _) = some (vp_cell (Z.2.2.2.1 1) (n, .inr (.inl _)))
    rw [vp_cell_l, vp_cell_l, arrV_store]
    congr 2
    funext q
    by_cases hq : q = i.toNatClampNeg
    · subst hq
      simp [updV, vp_updL]
    · simp [updV, vp_updL, hq])
theorem z_arload (C : zOk B Z cc own R nL) {a c : Nat} {i : Int32} {F : Nat → Option α} (hc : c < 5) (hr : (zty c).isReference = true) (d : decode cc pc = .ok (.aaload, 1)) (kk : ∀ x, zJ B Z Q (F x) (pc + 1) lv (.ref (B + x) :: st) h z) : zJ B Z Q ((zar h a c i).bind F) pc lv (.int i :: .ref (B + a) :: st) h z :=
  z_bind (fun x hx u hu H locs ls hL hP hz hS => by
    obtain ⟨n, f, e1, e2, e3⟩ := zar_of hx
    have hlt : i.toNatClampNeg < n := Nat.not_le.mp fun q => e2 (Or.inr q)
    refine W.aald (v := .ref (B + x)) (ty := zty c) C.1 C.2.1 (hP a _ e1) ((C.2.2.2.2.1.2 c _ (ztys_at _ hc)).1 n (fun j => va_rf ((f j).map (fun a => B + a)))) hr (fun q => by cases q) (by show ¬ (i < 0 ∨ (arrV _ _ _).slots.size ≤ _); rw [arrV_size]; exact e2) ?_ rfl rfl d (kk x u hu H locs ls hL hP hz hS)
    show (arrV (Z.2.2.2.1 c) n (fun j => va_rf ((f j).map (fun a => B + a)))).slots[i.toNatClampNeg]? = some (.ref (B + x))
    rw [arrV_read _ _ hlt, e3]
    rfl)
theorem z_arstore (C : zOk B Z cc own R nL) {a c ci r : Nat} {i : Int32} {F : zH → Option α} {q0 : vw_C} (hc : c < 5) (hq : vwCl[ci]? = some q0) (ht : zty c = .object q0.1) (d : decode cc pc = .ok (.aastore, 1)) (kk : ∀ h1, zJ B Z Q (F h1) (pc + 1) lv st h1 z) : zJ B Z Q ((zsr h a c ci i r).bind F) pc lv (.ref (B + r) :: .int i :: .ref (B + a) :: st) h z :=
  z_bind (fun h1 hh u hu H locs ls hL hP hz hS => by
    have hkk := kk h1
    obtain ⟨n, f, fs, e1, e2, e3, rfl⟩ := zsr_of hh
    have hlt : i.toNatClampNeg < n := Nat.not_le.mp fun q => e2 (Or.inr q)
    have h0 : ¬ i < 0 := fun q => e2 (Or.inl q)
    obtain ⟨r', hr', cellV, g1, g2, g3, -⟩ := hP r _ e3
    have hcls := (C.2.2.2.2.1.1 ci q0 hq).2
    have hT := (C.2.2.2.2.1.2 c _ (ztys_at _ hc)).2
    rw [ht] at hT
    obtain ⟨kA, comp, k1, k2, k3, -⟩ := hT
    have hcomp : comp = Z.2.2.1.1 ci := Option.some.inj (k3.symm.trans hcls.1)
    subst hcomp
    obtain ⟨kC, hkC, -⟩ := hcls.2
    refine W.aast C.1 C.2.1 (hP a _ e1) (fun q h => by cases h) (fun h => by cases h) k1 k2 rfl hkC ⟨h0, by show _ < (arrV _ _ _).slots.size; rw [arrV_size]; exact hlt⟩ g1 (fun q h => by rw [g3] at h; cases h) (by rw [g2]; exact hkC) (by rw [g2]; exact va_assign hcls) rfl rfl d fun H1 f1 f2 f3 => ?_
    refine hkk u hu H1 _ ls hL (hP.set ?_ f3) (by rw [f2]; exact hz) (hS.put f2 f3 (Nat.le_add_right B a))
    show H1[B + a]? = some (vp_cell _ _)
    rw [f1]
    show some ((vp_cell (Z.2.2.2.1 c) (n, .inr (.inr (.inr (.inr (fun j => (f j).map (fun a => B + a))))))).setSlot _ _) = some (vp_cell (Z.2.2.2.1 c) (n, .inr (.inr (.inr (.inr (fun j => (va_up f i.toNatClampNeg (some r) j).map (fun a => B + a)))))))
    rw [vp_cell_q, vp_cell_q, arrV_store]
    congr 2
    funext q
    by_cases hq : q = i.toNatClampNeg
    · subst hq
      simp [updV, va_up, va_rf]
    · simp [updV, va_up, hq])
theorem z_alen (C : zOk B Z cc own R nL) {a : Nat} {F : Int32 → Option α} (d : decode cc pc = .ok (.arraylength, 1)) (kk : ∀ x, zJ B Z Q (F x) (pc + 1) lv (.int x :: st) h z) : zJ B Z Q ((zlen h a).bind F) pc lv (.ref (B + a) :: st) h z :=
  z_bind (fun x hx u hu H locs ls hL hP hz hS => by
    obtain ⟨n, f, e1, e2⟩ := zlen_of hx
    exact va_alen (x := (n, .inl f)) C.1 C.2.1 C.2.2.2.2.1 (hP.one e1) 0 0 rfl rfl e2 d (kk x u hu H locs ls hL hP hz hS))
theorem z_copy (C : zOk B Z cc own R nL) {a b index : Nat} {sp dp n : Int32} {F : zH → Option α} (hl : Cond.methodLink own index arraycopyName ∈ zWs) (hnat : Cond.native arraycopyName ∈ zWs) (hstat : Cond.static arraycopyName ∈ zWs) (hini : Cond.initialized "java/lang/System" ∈ zWs) (hR : 1 ≤ R.frames ∧ (st.map fun v => v.category).sum + (nativeFrameWords "java/lang/System" "arraycopy" 5 + 11) ≤ R.locals) (d : decode cc pc = .ok (.invokestatic index, 3)) (kk : ∀ h1, zJ B Z Q (F h1) (pc + 3) lv st h1 z) : zJ B Z Q ((zcp h a sp b dp n).bind F) pc lv (.int n :: .int dp :: .ref (B + b) :: .int sp :: .ref (B + a) :: st) h z :=
  z_bind (fun h1 hh u hu H locs ls hL hP hz hS => by
    have hkk := kk h1
    obtain ⟨n0, f, n1, g, e1, e2, f1, f2, f3, f4, f5, rfl⟩ := zcp_of hh
    have nn : ∀ z : Int32, ¬ z < 0 → z.toInt = (z.toNatClampNeg : Int) := by
      intro z hz
      have hz0 : (0 : Int) ≤ z.toInt := by
        have := Int32.not_lt.mp hz
        simpa using Int32.le_iff_toInt_le.mp this
      show z.toInt = ((z.toInt.toNat : Nat) : Int)
      omega
    intro T hT X
    have hc0 : H[B + a]? = some (vp_cell (Z.2.2.2.1 0) (n0, .inl f)) := hP a _ e1
    have hc1 : H[B + b]? = some (vp_cell (Z.2.2.2.1 0) (n1, .inl g)) := hP b _ e2
    obtain ⟨-, k0, hk0, cm0, hkk0⟩ := (C.2.2.2.2.1.2 0 _ rfl).1 n0 (fun j => .int (f j))
    obtain ⟨-, k1, hk1, cm1, hkk1⟩ := (C.2.2.2.2.1.2 0 _ rfl).1 n1 (fun j => .int (g j))
    obtain ⟨vm', X', step⟩ := X.arraycopy C.1 C.2.2.2.1 (C.2.2.1 _ hl) (C.2.2.1 _ hnat) (C.2.2.1 _ hstat) (C.2.2.1 _ hini) (src := B + a) (dst := B + b) (cs := vp_cell (Z.2.2.2.1 0) (n0, .inl f)) (cd := vp_cell (Z.2.2.2.1 0) (n1, .inl g)) (srcPos := sp) (destPos := dp) (n := n) (by rw [hT]; exact hc0) (by rw [hT]; exact hc1)
      (fun _ h => by cases h) (fun _ h => by cases h) (fun h => by cases h) (fun h => by cases h) hk0 hk1 hkk0 hkk1 (by simp [refKind]) f1 f2 f3
      (by rw [nn sp f1, nn n f3]; show ¬ _ > ((arrV (Z.2.2.2.1 0) n0 (fun j => .int (f j))).slots.size : Int); rw [arrV_size]; omega)
      (by rw [nn dp f2, nn n f3]; show ¬ _ > ((arrV (Z.2.2.2.1 0) n1 (fun j => .int (g j))).slots.size : Int); rw [arrV_size]; omega)
      (fun vm₁ _ i hi => by
        have e : (vp_cell (Z.2.2.2.1 0) (n0, .inl f)).slots.getD (sp.toNatClampNeg + i) .null = .int (f (sp.toNatClampNeg + i)) := by
          show (arrV (Z.2.2.2.1 0) n0 (fun j => .int (f j))).slots.getD _ _ = _
          rw [Array.getD_eq_getD_getElem?, arrV_read _ _ (by omega)]
          rfl
        refine ⟨?_, ?_⟩
        · rw [e]
          rfl
        · rw [e]
          exact trivial)
      (g := F0 Z.2.1.1 pc ls (.int n :: .int dp :: .ref (B + b) :: .int sp :: .ref (B + a) :: st)) rfl (by rw [C.2.2.2.2.2.2.1]; exact hL.1) (rest := st) rfl (by rw [C.2.1]; exact d) (by rw [C.2.2.2.2.2.1]; exact hR.1) (by rw [C.2.2.2.2.2.1]; show 2 * 0 + _ + _ ≤ _; have := hR.2; omega)
    have e3 : copied (vp_cell (Z.2.2.2.1 0) (n0, .inl f)) (vp_cell (Z.2.2.2.1 0) (n1, .inl g)) sp dp n = vp_cell (Z.2.2.2.1 0) (n1, .inl (va_cpy f g sp.toNatClampNeg dp.toNatClampNeg n.toNatClampNeg)) := va_copied (fun z => .int z) _ _ f g f4
    rw [e3] at X' step
    have hlt : B + b < H.size := (Array.getElem?_eq_some_iff.mp hc1).1
    have hheap : ((T.setVm vm').setCell (B + b) (vp_cell (Z.2.2.2.1 0) (n1, .inl (va_cpy f g sp.toNatClampNeg dp.toNatClampNeg n.toNatClampNeg)))).heap = H.setIfInBounds (B + b) (vp_cell (Z.2.2.2.1 0) (n1, .inl (va_cpy f g sp.toNatClampNeg dp.toNatClampNeg n.toNatClampNeg))) := by rw [← hT]; rfl
    have oq : ∀ q : Nat, q ≠ B + b → (H.setIfInBounds (B + b) (vp_cell (Z.2.2.2.1 0) (n1, .inl (va_cpy f g sp.toNatClampNeg dp.toNatClampNeg n.toNatClampNeg))))[q]? = H[q]? := fun q hq => by simp [Array.getElem?_setIfInBounds, Ne.symm hq]
    obtain ⟨t, a1, b1⟩ := hkk u hu _ _ ls hL (hP.set (show (H.setIfInBounds (B + b) _)[B + b]? = some _ by simp [Array.getElem?_setIfInBounds, hlt]; rfl) oq) (by simp; exact hz) ⟨by simp; exact hS.1, fun q g1 g2 => by
        rw [oq q (fun e => g2 (by rw [e]; exact Nat.le_add_right B b))]
        exact hS.2.1 q g1 g2, fun q hq => by
        rcases List.mem_append.mp hq with h | h
        · exact hS.2.2 q h
        · obtain ⟨i, -, rfl⟩ := List.mem_map.mp h
          exact Nat.le_add_right B b⟩ _ hheap X'
    exact ⟨t, step t a1, b1⟩)
end ZR
/-! contracts, ends, calls -/
abbrev zR (k mc ms : Nat) : Room := { frames := k, cells := mc, slots := ms, locals := 64 * k }
def zQc (B : Nat) (D : va_G) (cA : Nat → ClassId) (v : Option Value) (h' : zH) (mc : Nat) : Array Value → State → Outcome → State → Prop := fun _ st oc t => oc = .returned v ∧ zP B D cA h' t.heap ∧ st.heap.size + mc ≤ t.heap.size ∧ va_F (fun q => B ≤ q) st t
def zPc (B : Nat) (D : va_G) (cA : Nat → ClassId) (h : zH) (sz : Option Nat) (av : List Value) : Array Value → State → Prop := va_Pc av (fun U => zSt B D cA h U ∧ ∀ n, sz = some n → U.heap.size = B + n)
def zM (l : Launch) (B : Nat) (D : va_G) (cA : Nat → ClassId) (y : MethodName) (cc : ByteArray) (maxL : Nat) (ret : Option FieldType) (k mc ms : Nat) (sz : Option Nat) (av : List Value) (h : zH) (v : Option Value) (h' : zH) : Prop :=
  Met l y (Cond.code y cc maxL ret :: zWs) (zR k mc ms) (zPc B D cA h sz av) (zQc B D cA v h' mc) mc ms (fun q => B ≤ q)
def zEnd (B : Nat) (Z : zC) {α : Type} (out : α → Option Value × zH) (mc ms : Nat) (u : α) : State → Prop := MQ Z.2.1.2.2.1 (zQc B Z.2.2.1 Z.2.2.2.1 (out u).1 (out u).2 mc) Z.2.1.2.1 Z.1.2.2.2.2 mc ms (fun q => B ≤ q)
theorem zgood : ∀ w ∈ zWs, (w.onTables && w.keeps) = true ∨ ∃ ty, w = .arrayClass ty := fun w hw => good_of_word (List.all_eq_true.mp (show zWs.all goodWord = true by decide +kernel) w hw)
theorem zgoodIn {y : MethodName} {bytes : ByteArray} {maxL : Nat} {ret : Option FieldType} (hc : Cond.code y bytes maxL ret ∈ zWs) : ∀ w ∈ (Cond.code y bytes maxL ret :: zWs), w ∈ zWs ∧ ((w.onTables && w.keeps) = true ∨ ∃ ty, w = .arrayClass ty) := fun w hw => (List.mem_cons.mp hw).elim (fun e => by rw [e]; exact ⟨hc, zgood _ hc⟩) (fun e => ⟨e, zgood w e⟩)
theorem zN.warm {s U : State} (hW : s.WarmedH U.vm) (hN : zN s) : zN U := by
  obtain ⟨⟨a1, a2, a3, a4⟩, ⟨b1, b2, b3, b4, b5, b6⟩, ⟨c1, c2, c3⟩, d1, d2, d3⟩ := hN
  exact ⟨⟨va_Nw.warmM hW a1, va_Nw.warmM hW a2, va_Nw.warmM hW a3, va_Nw.warmM hW a4⟩, ⟨va_Nw.warmC hW b1, va_Nw.warmC hW b2, va_Nw.warmC hW b3, va_Nw.warmD hW b4, va_Nw.warmD hW b5, va_Nw.warmD hW b6⟩, ⟨va_Nc.moved hW.alike c1, va_Nc.moved hW.alike c2, va_Nc.moved hW.alike c3⟩, va_AO.moved hW.alike d1, va_AO.moved hW.alike d2, zAOA.moved hW.alike d3⟩
theorem zN.same {U : State} {g : JFrame} {mk : MethodId} {a : Array Value} (hN : zN U) : zN (U.calling g mk a) := by
  obtain ⟨⟨a1, a2, a3, a4⟩, ⟨b1, b2, b3, b4, b5, b6⟩, ⟨c1, c2, c3⟩, d1, d2, d3⟩ := hN
  have e : U.vm.Alike (U.calling g mk a).vm := Vm.Alike.refl U.vm
  exact ⟨⟨va_Nw.same rfl rfl a1, va_Nw.same rfl rfl a2, va_Nw.same rfl rfl a3, va_Nw.same rfl rfl a4⟩, ⟨va_Nw.same rfl rfl b1, va_Nw.same rfl rfl b2, va_Nw.same rfl rfl b3, va_Nw.same rfl rfl b4, va_Nw.same rfl rfl b5, va_Nw.same rfl rfl b6⟩, ⟨va_Nc.moved e c1, va_Nc.moved e c2, va_Nc.moved e c3⟩, va_AO.moved e d1, va_AO.moved e d2, zAOA.moved e d3⟩
theorem zSt_at {B : Nat} {Z : zC} {cc : ByteArray} {own : String} {R : Room} {nL : Nat} {h : zH} {H : Heap} {locs : List Loc} (C : zOk B Z cc own R nL) (hP : zP B Z.2.2.1 Z.2.2.2.1 h H) (hS : va_S (fun q => B ≤ q) Z.1.2.2.2.2.heap H locs) {U : State} (hU : U.heap = H) (hW : Z.1.2.2.2.2.WarmedH U.vm) : zSt B Z.2.2.1 Z.2.2.2.1 h U := by
  obtain ⟨-, -, -, -, hK, -, -, hB, hN, hX, -, -⟩ := C
  refine ⟨by rw [hU]; exact hP, va_K.moved hW.alike hK, by rw [hU]; exact Nat.le_trans hB hS.1, zN.warm hW hN, ?_⟩
  rw [hU]
  exact ⟨vx_Zq.moved hW.alike (hX.1.kept hS.2.1), vx_Zq.moved hW.alike (hX.2.kept hS.2.1)⟩
theorem zPc_blind {B : Nat} {D : va_G} {cA : Nat → ClassId} {h : zH} {sz : Option Nat} {av : List Value} : FrameBlind (zPc B D cA h sz av) := fun a U g mk q => by
  obtain ⟨e, ⟨q1, q2, q3, q4, q5⟩, q6⟩ := q
  exact ⟨e, ⟨q1, va_K.moved (u := U) (U := U.calling g mk a) (Vm.Alike.refl U.vm) q2, q3, zN.same q4, ⟨vx_Zq.moved (u := U) (U := U.calling g mk a) (Vm.Alike.refl U.vm) q5.1, vx_Zq.moved (u := U) (U := U.calling g mk a) (Vm.Alike.refl U.vm) q5.2⟩⟩, q6⟩
/-- what the Met of a method owes: a walk from its entry -/
theorem z_met {l : Launch} {B : Nat} {D : va_G} {cA : Nat → ClassId} {y : MethodName} {cc : ByteArray} {maxL : Nat} {ret : Option FieldType} {k mc ms : Nat} {sz : Option Nat} {av : List Value} {h : zH} {α : Type} {o : Option α} (out : α → Option Value × zH) {own : String} (hown0 : y.cls = own) (hy : plainName y.cls = true) (hn : Nat.ble (lg_sl av).length maxL = true)
    (walk : ∀ Z : zC, zOk B Z cc own (zR k mc ms) maxL → Z.2.1.2.2.2.1.sig.returnType = ret → Z.2.1.2.2.2.1.name = y.name → (∀ n, sz = some n → Z.1.2.2.2.2.heap.size = B + n) → zJ B Z (zEnd B Z out mc ms) o 0 (lv_args 0 av) [] h (0, 0, Z.1.2.2.2.2.heap.size)) :
    ∀ u, o = some u → zM l B D cA y cc maxL ret k mc ms sz av h (out u).1 (out u).2 := by
  intro u hu
  subst hown0
  refine Met.ofW (cc := cc) (maxL := maxL) (ret := ret) hy rfl ?_
  intro p e s m args below meth c s₁ Bd hml hv
  obtain ⟨rfl, ⟨hP, hK, hB, hN, hX⟩, hsz⟩ := hv
  have hts := atoms_spec (ws := Cond.code y cc maxL ret :: zWs) Bd.pre
  have hown : s.vm.findClass y.cls = some m.cls := findClass_of_methodNamed Bd.named
  have W1 := walk ((p, l, e, zR k mc ms, s), (m, av.toArray, below, meth, c), (D, cA, maxL)) ⟨Bd.exec, Bd.bytes, fun w hw => hts w (List.mem_cons_of_mem _ hw), hown, hK, rfl, hml, hB, hN, hX, Bd.notSynchronized, rfl⟩ Bd.returns (name_of_methodNamed Bd.named Bd.method).1 hsz u hu
  have hl := lv_entry av (n := maxL) (Nat.le_of_ble_eq_true hn)
  rw [lg_entry_eq]
  exact W1 s.heap [] _ hl hP (Nat.le_refl _) va_S.rf
def zmin (x y : Int32) : Int32 := if y < x then y else x
def zmax (x y : Int32) : Int32 := if x < y then y else x
section ZC
variable {B : Nat} {Z : zC} {α β γ : Type} {Q : α → State → Prop} {o : Option α} {pc : Nat} {lv lv' : List (Nat × Value)} {st rest : List Value} {h : zH} {z : Nat × Nat × Nat} {cc : ByteArray} {own : String} {R : Room} {nL : Nat}
theorem z_ret0 {out : α → Option Value × zH} {mc ms : Nat} {u : α} {v : Option Value} {H : Heap} {locs : List Loc} (hu : out u = (v, h)) (hP : zP B Z.2.2.1 Z.2.2.2.1 h H) (hz : Z.1.2.2.2.2.heap.size + mc ≤ H.size) (hS : va_S (fun q => B ≤ q) Z.1.2.2.2.2.heap H locs) : ∀ t : State, t.heap = H → Z.1.2.2.2.2.WarmedH t.vm → zQc B Z.2.2.1 Z.2.2.2.1 (out u).1 (out u).2 mc Z.2.1.2.1 Z.1.2.2.2.2 (.returned v) t := fun t ht _ => ⟨by rw [hu], by rw [hu, ht]; exact hP, by rw [ht]; exact hz, hS.F ht⟩
theorem z_iret (C : zOk B Z cc own R nL) {out : α → Option Value × zH} {mc ms : Nat} (hr : Z.2.1.2.2.2.1.sig.returnType = some .int) {u : α} {x : Int32} (hu : out u = (some (.int x), h)) (d : decode cc pc = .ok (.ireturn, 1)) : zJ B Z (zEnd B Z out mc ms) (some u) pc lv [.int x] h (mc, ms, Z.1.2.2.2.2.heap.size + mc) := by
  intro u' e H locs ls hL hP hz hS
  cases e
  exact W.iret (v := x) C.1 C.2.1 hr (z_ret0 (ms := ms) hu hP hz hS) hS.2.2 d C.2.2.2.2.2.2.2.2.2.2.1
theorem z_zret (C : zOk B Z cc own R nL) {out : α → Option Value × zH} {mc ms : Nat} (hr : Z.2.1.2.2.2.1.sig.returnType = some .boolean) {u : α} {x : Int32} (hx : x = 0 ∨ x = 1) (hu : out u = (some (.int x), h)) (d : decode cc pc = .ok (.ireturn, 1)) : zJ B Z (zEnd B Z out mc ms) (some u) pc lv [.int x] h (mc, ms, Z.1.2.2.2.2.heap.size + mc) := by
  intro u' e H locs ls hL hP hz hS
  cases e
  exact W.zret (v := x) C.1 C.2.1 hr (by rcases hx with rfl | rfl <;> rfl) (z_ret0 (ms := ms) hu hP hz hS) hS.2.2 d C.2.2.2.2.2.2.2.2.2.2.1
theorem z_vret (C : zOk B Z cc own R nL) {out : α → Option Value × zH} {mc ms : Nat} (hr : Z.2.1.2.2.2.1.sig.returnType = none) {u : α} (hu : out u = (none, h)) (d : decode cc pc = .ok (.return_, 1)) : zJ B Z (zEnd B Z out mc ms) (some u) pc lv [] h (mc, ms, Z.1.2.2.2.2.heap.size + mc) := by
  intro u' e H locs ls hL hP hz hS
  cases e
  exact W.vret C.1 C.2.1 hr (z_ret0 (ms := ms) hu hP hz hS) hS.2.2 d C.2.2.2.2.2.2.2.2.2.2.1
theorem z_lret (C : zOk B Z cc own R nL) {out : α → Option Value × zH} {mc ms : Nat} (hr : Z.2.1.2.2.2.1.sig.returnType = some .long) {u : α} {x : Int64} (hu : out u = (some (.long x), h)) (d : decode cc pc = .ok (.lreturn, 1)) : zJ B Z (zEnd B Z out mc ms) (some u) pc lv [.long x] h (mc, ms, Z.1.2.2.2.2.heap.size + mc) := by
  intro u' e H locs ls hL hP hz hS
  cases e
  exact W.lret (v := x) C.1 C.2.1 hr (z_ret0 (ms := ms) hu hP hz hS) hS.2.2 d C.2.2.2.2.2.2.2.2.2.2.1
theorem z_dret (C : zOk B Z cc own R nL) {out : α → Option Value × zH} {mc ms : Nat} (hr : Z.2.1.2.2.2.1.sig.returnType = some .double) {u : α} {x : UInt64} (hu : out u = (some (.double x), h)) (d : decode cc pc = .ok (.dreturn, 1)) : zJ B Z (zEnd B Z out mc ms) (some u) pc lv [.double x] h (mc, ms, Z.1.2.2.2.2.heap.size + mc) := by
  intro u' e H locs ls hL hP hz hS
  cases e
  exact W.dret (v := x) C.1 C.2.1 hr (z_ret0 (ms := ms) hu hP hz hS) hS.2.2 d C.2.2.2.2.2.2.2.2.2.2.1
theorem z_min {k mc ms : Nat} (C : zOk B Z cc own (zR k mc ms) nL) (rest : List Value) {index : Nat} {x y : Int32} (hst : st = rest) (w1 : Cond.methodLink own index Lib.Math.min.name ∈ zWs) (w2 : Cond.static Lib.Math.min.name ∈ zWs) (w3 : Cond.initialized "java/lang/Math" ∈ zWs) (w4 : Cond.code Lib.Math.min.name Lib.Math.min.code 2 (some .int) ∈ zWs) (hk : Nat.ble 1 k = true) (hrm : Nat.ble ((rest.map fun v => v.category).sum + 13) (64 * k) = true) (hroom : z.1 ≤ mc ∧ z.2.1 ≤ ms) (d : decode cc pc = .ok (.invokestatic index, 3)) (kk : zJ B Z Q o (pc + 3) lv (.int (zmin x y) :: st) h z) : zJ B Z Q o pc lv (.int y :: .int x :: st) h z := fun u hu H locs ls hL hP hz hS => by
  obtain ⟨hx1, hx2, hts, hown, hK, hR, hml, hB, hN, hX, hlk, hnL⟩ := id C
  subst hst
  exact va_mmin hx1 hx2 (by rw [hml, hL.1]) hown (hts _ w1) (hts _ w2) (hts _ w3) (hts _ w4) (by rw [hR]; exact Nat.le_of_ble_eq_true hk) (by rw [hR]; exact Nat.le_of_ble_eq_true hrm) (by rw [hR]; exact hroom.1) (by rw [hR]; exact hroom.2) d (kk u hu H locs ls hL hP hz hS)
theorem z_max {k mc ms : Nat} (C : zOk B Z cc own (zR k mc ms) nL) (rest : List Value) {index : Nat} {x y : Int32} (hst : st = rest) (w1 : Cond.methodLink own index Lib.Math.max.name ∈ zWs) (w2 : Cond.static Lib.Math.max.name ∈ zWs) (w3 : Cond.initialized "java/lang/Math" ∈ zWs) (w4 : Cond.code Lib.Math.max.name Lib.Math.max.code 2 (some .int) ∈ zWs) (hk : Nat.ble 1 k = true) (hrm : Nat.ble ((rest.map fun v => v.category).sum + 13) (64 * k) = true) (hroom : z.1 ≤ mc ∧ z.2.1 ≤ ms) (d : decode cc pc = .ok (.invokestatic index, 3)) (kk : zJ B Z Q o (pc + 3) lv (.int (zmax x y) :: st) h z) : zJ B Z Q o pc lv (.int y :: .int x :: st) h z := fun u hu H locs ls hL hP hz hS => by
  obtain ⟨hx1, hx2, hts, hown, hK, hR, hml, hB, hN, hX, hlk, hnL⟩ := id C
  subst hst
  exact va_mmax hx1 hx2 (by rw [hml, hL.1]) hown (hts _ w1) (hts _ w2) (hts _ w3) (hts _ w4) (by rw [hR]; exact Nat.le_of_ble_eq_true hk) (by rw [hR]; exact Nat.le_of_ble_eq_true hrm) (by rw [hR]; exact hroom.1) (by rw [hR]; exact hroom.2) d (kk u hu H locs ls hL hP hz hS)
/-- behind a call -/
theorem z_back {Qs : State → Prop} {mc' ms' : Nat} {v : Option Value} {h' : zH} {a : Array Value} {st0 : List Value} {z : Nat × Nat × Nat}
    (hr : ∀ (H : Heap) (locs : List Loc) (ls : Array Slot), lv_has ls Z.2.2.2.2 lv → zP B Z.2.2.1 Z.2.2.2.1 h H → z.2.2 ≤ H.size → va_S (fun q => B ≤ q) Z.1.2.2.2.2.heap H locs → va_Run Z.1.1 Z.1.2.1 Z.1.2.2.1 Z.1.2.2.2.1 Z.1.2.2.2.2 Z.2.1.1 Z.2.1.2.1 Z.2.1.2.2.1 Z.2.1.2.2.2.1 Z.2.1.2.2.2.2 H locs z.1 z.2.1 mc' ms' (F0 Z.2.1.1 pc ls st0) rest (zQc B Z.2.2.1 Z.2.2.2.1 v h' mc' a) (fun q => B ≤ q))
    (kk : zW B Z Qs (pc + 3) lv (v.toList ++ rest) h' (z.1 + mc', z.2.1 + ms', z.2.2 + mc')) : zW B Z Qs pc lv st0 h z := by
  intro H locs ls hL hP hz hS T hT X
  obtain ⟨w, st₀, t, T', L, h0, X', hF, e1, e2, ⟨hv, hp, hsz, hf⟩, stp⟩ := hr H locs ls hL hP hz hS T hT X
  cases hv
  obtain ⟨f1, f2⟩ := hf
  rw [h0] at f1 f2 hsz
  obtain ⟨t2, a1, b1⟩ := kk T'.heap (locs ++ L) ls hL (by rw [e1]; exact hp) (by rw [e1]; exact Nat.le_trans (Nat.add_le_add_right hz mc') hsz)
    ⟨Nat.le_trans hS.1 (by rw [e1]; exact f1), fun q h1 h2 => by rw [e1, f2 q (Nat.lt_of_lt_of_le h1 hS.1) h2]; exact hS.2.1 q h1 h2, fun q hq => by
      rcases List.mem_append.mp hq with h | h
      · exact hS.2.2 q h
      · exact hF q h⟩ T' rfl X'
  exact ⟨t2, stp t2 a1, b1⟩
/-- a method's name, and how many arguments it has -/
def zNm (y : MethodName) (n : Nat) : Prop := (y.cls ≠ "java/lang/invoke/MethodHandle" ∧ y.cls ≠ "java/lang/invoke/VarHandle") ∧ (parseMethodDescriptor y.desc).map (fun d => d.parameters.length) = some n
theorem zNm.len {y : MethodName} {n : Nat} (h : zNm y n) : ∀ sig, parseMethodDescriptor y.desc = some sig → n = sig.parameters.length := fun sig e => by
  have h2 := h.2
  rw [e] at h2
  exact (Option.some.inj h2).symm
theorem z_callV {y : MethodName} {bytes : ByteArray} {maxL index n b ci N k' mc' ms' k mc ms : Nat} {ret : Option FieldType} {Cn : String} {T : u_T} {ty : Nat → FieldType} {As fs st0 : List Value} {v : Option Value} {h' : zH} {sz : Option Nat} {Qs : State → Prop} {z : Nat × Nat × Nat} (C : zOk B Z cc own (zR k mc ms) nL) (hM : zM Z.1.2.1 B Z.2.2.1 Z.2.2.2.1 y bytes maxL ret k' mc' ms' sz (.ref (B + b) :: As) h v h') (hn : zNm y n) (hk : Nat.ble (k' + 1) k = true) (hx : Nat.ble (8 + (maxL + 11) + 64 * k') (64 * k) = true) (hroom : z.1 + mc' ≤ mc ∧ z.2.1 + ms' ≤ ms) (hsz : ∀ n, sz = some n → ∀ (H : Heap) (locs : List Loc) (ls : Array Slot), lv_has ls Z.2.2.2.2 lv → zP B Z.2.2.1 Z.2.2.2.1 h H → va_S (fun q => B ≤ q) Z.1.2.2.2.2.heap H locs → H.size = B + n)
    (hrc : zO h b ci = some fs) (hci : zCl ci Cn T N ty) (hy : Cn = y.cls) (w1 : Cond.methodLink own index y ∈ zWs) (w2 : Cond.instanceMethod y ∈ zWs) (w3 : Cond.selects y.cls y y ∈ zWs) (w4 : Cond.initialized y.cls ∈ zWs) (w5 : Cond.code y bytes maxL ret ∈ zWs) (hlen : As.length = n) (hst : st0 = As.reverse ++ .ref (B + b) :: rest) (hrm : Nat.ble (rest.map fun v => v.category).sum 8 = true) (d : decode cc pc = .ok (.invokevirtual index, 3))
    (kk : zW B Z Qs (pc + 3) lv (v.toList ++ rest) h' (z.1 + mc', z.2.1 + ms', z.2.2 + mc')) : zW B Z Qs pc lv st0 h z := by
  refine z_back (rest := rest) (mc' := mc') (ms' := ms') (a := (Value.ref (B + b) :: As).toArray) (fun H locs ls hL hP hzz hS => ?_) kk
  obtain ⟨hx1, hx2, hts, hown, hK, hR, hml, hB, hN, hX, hlk, hnL⟩ := id C
  subst hy
  refine va_runV (own := own) (C := y.cls) (index := index) (bytes := bytes) (maxL := maxL) (ret := ret) (n := n) (As := As) (b := B + b) ⟨hx1, hx2, hml, hown, hts⟩ hM ⟨⟨rfl, rfl, by rw [hR]; exact Nat.le_of_ble_eq_true hk, by rw [hR]; exact Nat.le_of_ble_eq_true hx, pay_in hts (zgoodIn w5), List.mem_cons_self, hts _ w5, hts _ w4, hn.1, hn.len, hts _ w1⟩, hts _ w2, hts _ w3⟩ ⟨zPc_blind, ?_, fun U hU hW => ⟨rfl, zSt_at C hP hS hU hW, fun n hn => by rw [hU]; exact hsz n hn H locs ls hL hP hS⟩⟩ rfl hlen hL.1 hst (lv_room (Nat.le_of_ble_eq_true hrm)) d (by rw [hR]; exact hroom)
  exact va_recv hK (hP.one (zO_of hrc)) (ci := ci) (q0 := 0) hci.1 rfl
theorem z_callS {y : MethodName} {bytes : ByteArray} {maxL index n k' mc' ms' k mc ms : Nat} {ret : Option FieldType} {As st0 : List Value} {v : Option Value} {h' : zH} {sz : Option Nat} {Qs : State → Prop} {z : Nat × Nat × Nat} (C : zOk B Z cc own (zR k mc ms) nL) (hM : zM Z.1.2.1 B Z.2.2.1 Z.2.2.2.1 y bytes maxL ret k' mc' ms' sz As h v h') (hn : zNm y n) (hk : Nat.ble (k' + 1) k = true) (hx : Nat.ble (8 + (maxL + 11) + 64 * k') (64 * k) = true) (hroom : z.1 + mc' ≤ mc ∧ z.2.1 + ms' ≤ ms) (hsz : ∀ n, sz = some n → ∀ (H : Heap) (locs : List Loc) (ls : Array Slot), lv_has ls Z.2.2.2.2 lv → zP B Z.2.2.1 Z.2.2.2.1 h H → va_S (fun q => B ≤ q) Z.1.2.2.2.2.heap H locs → H.size = B + n)
    (w1 : Cond.methodLink own index y ∈ zWs) (w2 : Cond.static y ∈ zWs) (w4 : Cond.initialized y.cls ∈ zWs) (w5 : Cond.code y bytes maxL ret ∈ zWs) (hlen : As.length = n) (hst : st0 = As.reverse ++ rest) (hrm : Nat.ble (rest.map fun v => v.category).sum 8 = true) (d : decode cc pc = .ok (.invokestatic index, 3))
    (kk : zW B Z Qs (pc + 3) lv (v.toList ++ rest) h' (z.1 + mc', z.2.1 + ms', z.2.2 + mc')) : zW B Z Qs pc lv st0 h z := by
  refine z_back (rest := rest) (mc' := mc') (ms' := ms') (a := As.toArray) (fun H locs ls hL hP hzz hS => ?_) kk
  obtain ⟨hx1, hx2, hts, hown, hK, hR, hml, hB, hN, hX, hlk, hnL⟩ := id C
  exact va_runS (own := own) (index := index) (bytes := bytes) (maxL := maxL) (ret := ret) (n := n) (As := As) ⟨hx1, hx2, hml, hown, hts⟩ hM ⟨⟨rfl, rfl, by rw [hR]; exact Nat.le_of_ble_eq_true hk, by rw [hR]; exact Nat.le_of_ble_eq_true hx, pay_in hts (zgoodIn w5), List.mem_cons_self, hts _ w5, hts _ w4, hn.1, hn.len, hts _ w1⟩, hts _ w2⟩ ⟨zPc_blind, fun U hU hW => ⟨rfl, zSt_at C hP hS hU hW, fun n hn => by rw [hU]; exact hsz n hn H locs ls hL hP hS⟩⟩ rfl hlen hL.1 hst (lv_room (Nat.le_of_ble_eq_true hrm)) d (by rw [hR]; exact hroom)
/-- a nest mate's static method -/
theorem z_callN {y : MethodName} {host : String} {bytes : ByteArray} {maxL index n k' mc' ms' k mc ms : Nat} {ret : Option FieldType} {As st0 : List Value} {v : Option Value} {h' : zH} {sz : Option Nat} {Qs : State → Prop} {z : Nat × Nat × Nat} (C : zOk B Z cc own (zR k mc ms) nL) (hM : zM Z.1.2.1 B Z.2.2.1 Z.2.2.2.1 y bytes maxL ret k' mc' ms' sz As h v h') (hn : zNm y n) (hk : Nat.ble (k' + 1) k = true) (hx : Nat.ble (8 + (maxL + 11) + 64 * k') (64 * k) = true) (hroom : z.1 + mc' ≤ mc ∧ z.2.1 + ms' ≤ ms) (hsz : ∀ n, sz = some n → ∀ (H : Heap) (locs : List Loc) (ls : Array Slot), lv_has ls Z.2.2.2.2 lv → zP B Z.2.2.1 Z.2.2.2.1 h H → va_S (fun q => B ≤ q) Z.1.2.2.2.2.heap H locs → H.size = B + n)
    (w1 : va_Nw (.methodLinkNest own index y host) Z.1.2.2.2.2) (w2 : Cond.static y ∈ zWs) (w4 : Cond.initialized y.cls ∈ zWs) (w5 : Cond.code y bytes maxL ret ∈ zWs) (hlen : As.length = n) (hst : st0 = As.reverse ++ rest) (hrm : Nat.ble (rest.map fun v => v.category).sum 8 = true) (d : decode cc pc = .ok (.invokestatic index, 3))
    (kk : zW B Z Qs (pc + 3) lv (v.toList ++ rest) h' (z.1 + mc', z.2.1 + ms', z.2.2 + mc')) : zW B Z Qs pc lv st0 h z := by
  refine z_back (rest := rest) (mc' := mc') (ms' := ms') (a := As.toArray) (fun H locs ls hL hP hzz hS => ?_) kk
  obtain ⟨hx1, hx2, hts, hown, hK, hR, hml, hB, hN, hX, hlk, hnL⟩ := id C
  exact va_runSN (own := own) (host := host) (index := index) (bytes := bytes) (maxL := maxL) (ret := ret) (n := n) (As := As) ⟨hx1, hx2, hml, hown, hts⟩ hM ⟨⟨⟨rfl, rfl, by rw [hR]; exact Nat.le_of_ble_eq_true hk, by rw [hR]; exact Nat.le_of_ble_eq_true hx, pay_in hts (zgoodIn w5), List.mem_cons_self⟩, hts _ w5, hts _ w4, hn.1, hn.len, va_Nw.use rfl w1⟩, hts _ w2, trivial⟩ ⟨zPc_blind, fun U hU hW => ⟨rfl, zSt_at C hP hS hU hW, fun n hn => by rw [hU]; exact hsz n hn H locs ls hL hP hS⟩⟩ rfl hlen hL.1 hst (lv_room (Nat.le_of_ble_eq_true hrm)) d (by rw [hR]; exact hroom)

theorem z_cvV {y : MethodName} {bytes : ByteArray} {maxL index n b ci N k' k mc ms : Nat} {ret : Option FieldType} {Cn : String} {T : u_T} {ty : Nat → FieldType} {As : List Value} {f : Option (zH)} {F : zH → Option α} (C : zOk B Z cc own (zR k mc ms) nL) (rest : List Value) (hM : ∀ u, f = some u → zM Z.1.2.1 B Z.2.2.1 Z.2.2.2.1 y bytes maxL ret k' 0 0 none (.ref (B + b) :: As) h ((fun h1 => (none, h1) : zH → Option Value × zH) u).1 ((fun h1 => (none, h1) : zH → Option Value × zH) u).2) (hn : zNm y n) (hk : Nat.ble (k' + 1) k = true) (hx : Nat.ble (8 + (maxL + 11) + 64 * k') (64 * k) = true) (hroom : z.1 ≤ mc ∧ z.2.1 ≤ ms)
    (hci : zCl ci Cn T N ty) (hy : Cn = y.cls) (w1 : Cond.methodLink own index y ∈ zWs) (w2 : Cond.instanceMethod y ∈ zWs) (w3 : Cond.selects y.cls y y ∈ zWs) (w4 : Cond.initialized y.cls ∈ zWs) (w5 : Cond.code y bytes maxL ret ∈ zWs) (hlen : As.length = n) (hst : st = As.reverse ++ .ref (B + b) :: rest) (hrm : Nat.ble (rest.map fun v => v.category).sum 8 = true) (d : decode cc pc = .ok (.invokevirtual index, 3)) (kk : ∀ (h1 : zH), zJ B Z Q (F h1) (pc + 3) lv (rest) h1 z) : zJ B Z Q (zrc h b ci (f.bind F)) pc lv st h z :=
  z_rc (fun fs hrc => z_bind (fun u hu u2 hu2 => z_callV (rest := rest) (st0 := st) (v := none) C (hM u hu) hn hk hx hroom (fun _ q => nomatch q) hrc hci hy w1 w2 w3 w4 w5 hlen hst hrm d (kk u u2 hu2)))
theorem z_cvI {y : MethodName} {bytes : ByteArray} {maxL index n b ci N k' k mc ms : Nat} {ret : Option FieldType} {Cn : String} {T : u_T} {ty : Nat → FieldType} {As : List Value} {f : Option (Int32 × zH)} {F : Int32 → zH → Option α} (C : zOk B Z cc own (zR k mc ms) nL) (rest : List Value) (hM : ∀ u, f = some u → zM Z.1.2.1 B Z.2.2.1 Z.2.2.2.1 y bytes maxL ret k' 0 0 none (.ref (B + b) :: As) h ((fun u => (some (.int u.1), u.2) : Int32 × zH → Option Value × zH) u).1 ((fun u => (some (.int u.1), u.2) : Int32 × zH → Option Value × zH) u).2) (hn : zNm y n) (hk : Nat.ble (k' + 1) k = true) (hx : Nat.ble (8 + (maxL + 11) + 64 * k') (64 * k) = true) (hroom : z.1 ≤ mc ∧ z.2.1 ≤ ms)
    (hci : zCl ci Cn T N ty) (hy : Cn = y.cls) (w1 : Cond.methodLink own index y ∈ zWs) (w2 : Cond.instanceMethod y ∈ zWs) (w3 : Cond.selects y.cls y y ∈ zWs) (w4 : Cond.initialized y.cls ∈ zWs) (w5 : Cond.code y bytes maxL ret ∈ zWs) (hlen : As.length = n) (hst : st = As.reverse ++ .ref (B + b) :: rest) (hrm : Nat.ble (rest.map fun v => v.category).sum 8 = true) (d : decode cc pc = .ok (.invokevirtual index, 3)) (kk : ∀ (r : Int32) (h1 : zH), zJ B Z Q (F r h1) (pc + 3) lv (.int r :: rest) h1 z) : zJ B Z Q (zrc h b ci (zb2 f F)) pc lv st h z :=
  z_rc (fun fs hrc => z_bind (fun u hu u2 hu2 => z_callV (rest := rest) (st0 := st) (v := some (.int u.1)) C (hM u hu) hn hk hx hroom (fun _ q => nomatch q) hrc hci hy w1 w2 w3 w4 w5 hlen hst hrm d (kk u.1 u.2 u2 hu2)))
theorem z_cvL {y : MethodName} {bytes : ByteArray} {maxL index n b ci N k' k mc ms : Nat} {ret : Option FieldType} {Cn : String} {T : u_T} {ty : Nat → FieldType} {As : List Value} {f : Option (Int64 × zH)} {F : Int64 → zH → Option α} (C : zOk B Z cc own (zR k mc ms) nL) (rest : List Value) (hM : ∀ u, f = some u → zM Z.1.2.1 B Z.2.2.1 Z.2.2.2.1 y bytes maxL ret k' 0 0 none (.ref (B + b) :: As) h ((fun u => (some (.long u.1), u.2) : Int64 × zH → Option Value × zH) u).1 ((fun u => (some (.long u.1), u.2) : Int64 × zH → Option Value × zH) u).2) (hn : zNm y n) (hk : Nat.ble (k' + 1) k = true) (hx : Nat.ble (8 + (maxL + 11) + 64 * k') (64 * k) = true) (hroom : z.1 ≤ mc ∧ z.2.1 ≤ ms)
    (hci : zCl ci Cn T N ty) (hy : Cn = y.cls) (w1 : Cond.methodLink own index y ∈ zWs) (w2 : Cond.instanceMethod y ∈ zWs) (w3 : Cond.selects y.cls y y ∈ zWs) (w4 : Cond.initialized y.cls ∈ zWs) (w5 : Cond.code y bytes maxL ret ∈ zWs) (hlen : As.length = n) (hst : st = As.reverse ++ .ref (B + b) :: rest) (hrm : Nat.ble (rest.map fun v => v.category).sum 8 = true) (d : decode cc pc = .ok (.invokevirtual index, 3)) (kk : ∀ (r : Int64) (h1 : zH), zJ B Z Q (F r h1) (pc + 3) lv (.long r :: rest) h1 z) : zJ B Z Q (zrc h b ci (zb2 f F)) pc lv st h z :=
  z_rc (fun fs hrc => z_bind (fun u hu u2 hu2 => z_callV (rest := rest) (st0 := st) (v := some (.long u.1)) C (hM u hu) hn hk hx hroom (fun _ q => nomatch q) hrc hci hy w1 w2 w3 w4 w5 hlen hst hrm d (kk u.1 u.2 u2 hu2)))
theorem z_cvE {y : MethodName} {bytes : ByteArray} {maxL index n b ci N k' k mc ms : Nat} {ret : Option FieldType} {Cn : String} {T : u_T} {ty : Nat → FieldType} {As : List Value} {f : Option (UInt64 × zH)} {F : UInt64 → zH → Option α} (C : zOk B Z cc own (zR k mc ms) nL) (rest : List Value) (hM : ∀ u, f = some u → zM Z.1.2.1 B Z.2.2.1 Z.2.2.2.1 y bytes maxL ret k' 0 0 none (.ref (B + b) :: As) h ((fun u => (some (.double u.1), u.2) : UInt64 × zH → Option Value × zH) u).1 ((fun u => (some (.double u.1), u.2) : UInt64 × zH → Option Value × zH) u).2) (hn : zNm y n) (hk : Nat.ble (k' + 1) k = true) (hx : Nat.ble (8 + (maxL + 11) + 64 * k') (64 * k) = true) (hroom : z.1 ≤ mc ∧ z.2.1 ≤ ms)
    (hci : zCl ci Cn T N ty) (hy : Cn = y.cls) (w1 : Cond.methodLink own index y ∈ zWs) (w2 : Cond.instanceMethod y ∈ zWs) (w3 : Cond.selects y.cls y y ∈ zWs) (w4 : Cond.initialized y.cls ∈ zWs) (w5 : Cond.code y bytes maxL ret ∈ zWs) (hlen : As.length = n) (hst : st = As.reverse ++ .ref (B + b) :: rest) (hrm : Nat.ble (rest.map fun v => v.category).sum 8 = true) (d : decode cc pc = .ok (.invokevirtual index, 3)) (kk : ∀ (r : UInt64) (h1 : zH), zJ B Z Q (F r h1) (pc + 3) lv (.double r :: rest) h1 z) : zJ B Z Q (zrc h b ci (zb2 f F)) pc lv st h z :=
  z_rc (fun fs hrc => z_bind (fun u hu u2 hu2 => z_callV (rest := rest) (st0 := st) (v := some (.double u.1)) C (hM u hu) hn hk hx hroom (fun _ q => nomatch q) hrc hci hy w1 w2 w3 w4 w5 hlen hst hrm d (kk u.1 u.2 u2 hu2)))
theorem z_cvR {y : MethodName} {bytes : ByteArray} {maxL index n b ci N k' k mc ms : Nat} {ret : Option FieldType} {Cn : String} {T : u_T} {ty : Nat → FieldType} {As : List Value} {f : Option (Int32)} {F : Int32 → Option α} (C : zOk B Z cc own (zR k mc ms) nL) (rest : List Value) (hM : ∀ u, f = some u → zM Z.1.2.1 B Z.2.2.1 Z.2.2.2.1 y bytes maxL ret k' 0 0 none (.ref (B + b) :: As) h ((fun r => (some (.int r), h) : Int32 → Option Value × zH) u).1 ((fun r => (some (.int r), h) : Int32 → Option Value × zH) u).2) (hn : zNm y n) (hk : Nat.ble (k' + 1) k = true) (hx : Nat.ble (8 + (maxL + 11) + 64 * k') (64 * k) = true) (hroom : z.1 ≤ mc ∧ z.2.1 ≤ ms)
    (hci : zCl ci Cn T N ty) (hy : Cn = y.cls) (w1 : Cond.methodLink own index y ∈ zWs) (w2 : Cond.instanceMethod y ∈ zWs) (w3 : Cond.selects y.cls y y ∈ zWs) (w4 : Cond.initialized y.cls ∈ zWs) (w5 : Cond.code y bytes maxL ret ∈ zWs) (hlen : As.length = n) (hst : st = As.reverse ++ .ref (B + b) :: rest) (hrm : Nat.ble (rest.map fun v => v.category).sum 8 = true) (d : decode cc pc = .ok (.invokevirtual index, 3)) (kk : ∀ (r : Int32), zJ B Z Q (F r) (pc + 3) lv (.int r :: rest) h z) : zJ B Z Q (zrc h b ci (f.bind F)) pc lv st h z :=
  z_rc (fun fs hrc => z_bind (fun u hu u2 hu2 => z_callV (rest := rest) (st0 := st) (v := some (.int u)) C (hM u hu) hn hk hx hroom (fun _ q => nomatch q) hrc hci hy w1 w2 w3 w4 w5 hlen hst hrm d (kk u u2 hu2)))
theorem z_cvJ {y : MethodName} {bytes : ByteArray} {maxL index n b ci N k' k mc ms : Nat} {ret : Option FieldType} {Cn : String} {T : u_T} {ty : Nat → FieldType} {As : List Value} {f : Option (Int64)} {F : Int64 → Option α} (C : zOk B Z cc own (zR k mc ms) nL) (rest : List Value) (hM : ∀ u, f = some u → zM Z.1.2.1 B Z.2.2.1 Z.2.2.2.1 y bytes maxL ret k' 0 0 none (.ref (B + b) :: As) h ((fun r => (some (.long r), h) : Int64 → Option Value × zH) u).1 ((fun r => (some (.long r), h) : Int64 → Option Value × zH) u).2) (hn : zNm y n) (hk : Nat.ble (k' + 1) k = true) (hx : Nat.ble (8 + (maxL + 11) + 64 * k') (64 * k) = true) (hroom : z.1 ≤ mc ∧ z.2.1 ≤ ms)
    (hci : zCl ci Cn T N ty) (hy : Cn = y.cls) (w1 : Cond.methodLink own index y ∈ zWs) (w2 : Cond.instanceMethod y ∈ zWs) (w3 : Cond.selects y.cls y y ∈ zWs) (w4 : Cond.initialized y.cls ∈ zWs) (w5 : Cond.code y bytes maxL ret ∈ zWs) (hlen : As.length = n) (hst : st = As.reverse ++ .ref (B + b) :: rest) (hrm : Nat.ble (rest.map fun v => v.category).sum 8 = true) (d : decode cc pc = .ok (.invokevirtual index, 3)) (kk : ∀ (r : Int64), zJ B Z Q (F r) (pc + 3) lv (.long r :: rest) h z) : zJ B Z Q (zrc h b ci (f.bind F)) pc lv st h z :=
  z_rc (fun fs hrc => z_bind (fun u hu u2 hu2 => z_callV (rest := rest) (st0 := st) (v := some (.long u)) C (hM u hu) hn hk hx hroom (fun _ q => nomatch q) hrc hci hy w1 w2 w3 w4 w5 hlen hst hrm d (kk u u2 hu2)))
theorem z_cvD {y : MethodName} {bytes : ByteArray} {maxL index n b ci N k' k mc ms : Nat} {ret : Option FieldType} {Cn : String} {T : u_T} {ty : Nat → FieldType} {As : List Value} {f : Option (UInt64)} {F : UInt64 → Option α} (C : zOk B Z cc own (zR k mc ms) nL) (rest : List Value) (hM : ∀ u, f = some u → zM Z.1.2.1 B Z.2.2.1 Z.2.2.2.1 y bytes maxL ret k' 0 0 none (.ref (B + b) :: As) h ((fun r => (some (.double r), h) : UInt64 → Option Value × zH) u).1 ((fun r => (some (.double r), h) : UInt64 → Option Value × zH) u).2) (hn : zNm y n) (hk : Nat.ble (k' + 1) k = true) (hx : Nat.ble (8 + (maxL + 11) + 64 * k') (64 * k) = true) (hroom : z.1 ≤ mc ∧ z.2.1 ≤ ms)
    (hci : zCl ci Cn T N ty) (hy : Cn = y.cls) (w1 : Cond.methodLink own index y ∈ zWs) (w2 : Cond.instanceMethod y ∈ zWs) (w3 : Cond.selects y.cls y y ∈ zWs) (w4 : Cond.initialized y.cls ∈ zWs) (w5 : Cond.code y bytes maxL ret ∈ zWs) (hlen : As.length = n) (hst : st = As.reverse ++ .ref (B + b) :: rest) (hrm : Nat.ble (rest.map fun v => v.category).sum 8 = true) (d : decode cc pc = .ok (.invokevirtual index, 3)) (kk : ∀ (r : UInt64), zJ B Z Q (F r) (pc + 3) lv (.double r :: rest) h z) : zJ B Z Q (zrc h b ci (f.bind F)) pc lv st h z :=
  z_rc (fun fs hrc => z_bind (fun u hu u2 hu2 => z_callV (rest := rest) (st0 := st) (v := some (.double u)) C (hM u hu) hn hk hx hroom (fun _ q => nomatch q) hrc hci hy w1 w2 w3 w4 w5 hlen hst hrm d (kk u u2 hu2)))
theorem z_csV {y : MethodName} {bytes : ByteArray} {maxL index n k' k mc ms : Nat} {ret : Option FieldType} {As : List Value} {f : Option (zH)} {F : zH → Option α} (C : zOk B Z cc own (zR k mc ms) nL) (rest : List Value) (hM : ∀ u, f = some u → zM Z.1.2.1 B Z.2.2.1 Z.2.2.2.1 y bytes maxL ret k' 0 0 none (As) h ((fun h1 => (none, h1) : zH → Option Value × zH) u).1 ((fun h1 => (none, h1) : zH → Option Value × zH) u).2) (hn : zNm y n) (hk : Nat.ble (k' + 1) k = true) (hx : Nat.ble (8 + (maxL + 11) + 64 * k') (64 * k) = true) (hroom : z.1 ≤ mc ∧ z.2.1 ≤ ms)
    (w1 : Cond.methodLink own index y ∈ zWs) (w2 : Cond.static y ∈ zWs) (w4 : Cond.initialized y.cls ∈ zWs) (w5 : Cond.code y bytes maxL ret ∈ zWs) (hlen : As.length = n) (hst : st = As.reverse ++ rest) (hrm : Nat.ble (rest.map fun v => v.category).sum 8 = true) (d : decode cc pc = .ok (.invokestatic index, 3)) (kk : ∀ (h1 : zH), zJ B Z Q (F h1) (pc + 3) lv (rest) h1 z) : zJ B Z Q (f.bind F) pc lv st h z :=
  z_bind (fun u hu u2 hu2 => z_callS (rest := rest) (st0 := st) (v := none) C (hM u hu) hn hk hx hroom (fun _ q => nomatch q) w1 w2 w4 w5 hlen hst hrm d (kk u u2 hu2))
theorem z_csI {y : MethodName} {bytes : ByteArray} {maxL index n k' k mc ms : Nat} {ret : Option FieldType} {As : List Value} {f : Option (Int32 × zH)} {F : Int32 → zH → Option α} (C : zOk B Z cc own (zR k mc ms) nL) (rest : List Value) (hM : ∀ u, f = some u → zM Z.1.2.1 B Z.2.2.1 Z.2.2.2.1 y bytes maxL ret k' 0 0 none (As) h ((fun u => (some (.int u.1), u.2) : Int32 × zH → Option Value × zH) u).1 ((fun u => (some (.int u.1), u.2) : Int32 × zH → Option Value × zH) u).2) (hn : zNm y n) (hk : Nat.ble (k' + 1) k = true) (hx : Nat.ble (8 + (maxL + 11) + 64 * k') (64 * k) = true) (hroom : z.1 ≤ mc ∧ z.2.1 ≤ ms)
    (w1 : Cond.methodLink own index y ∈ zWs) (w2 : Cond.static y ∈ zWs) (w4 : Cond.initialized y.cls ∈ zWs) (w5 : Cond.code y bytes maxL ret ∈ zWs) (hlen : As.length = n) (hst : st = As.reverse ++ rest) (hrm : Nat.ble (rest.map fun v => v.category).sum 8 = true) (d : decode cc pc = .ok (.invokestatic index, 3)) (kk : ∀ (r : Int32) (h1 : zH), zJ B Z Q (F r h1) (pc + 3) lv (.int r :: rest) h1 z) : zJ B Z Q (zb2 f F) pc lv st h z :=
  z_bind (fun u hu u2 hu2 => z_callS (rest := rest) (st0 := st) (v := some (.int u.1)) C (hM u hu) hn hk hx hroom (fun _ q => nomatch q) w1 w2 w4 w5 hlen hst hrm d (kk u.1 u.2 u2 hu2))
theorem z_csL {y : MethodName} {bytes : ByteArray} {maxL index n k' k mc ms : Nat} {ret : Option FieldType} {As : List Value} {f : Option (Int64 × zH)} {F : Int64 → zH → Option α} (C : zOk B Z cc own (zR k mc ms) nL) (rest : List Value) (hM : ∀ u, f = some u → zM Z.1.2.1 B Z.2.2.1 Z.2.2.2.1 y bytes maxL ret k' 0 0 none (As) h ((fun u => (some (.long u.1), u.2) : Int64 × zH → Option Value × zH) u).1 ((fun u => (some (.long u.1), u.2) : Int64 × zH → Option Value × zH) u).2) (hn : zNm y n) (hk : Nat.ble (k' + 1) k = true) (hx : Nat.ble (8 + (maxL + 11) + 64 * k') (64 * k) = true) (hroom : z.1 ≤ mc ∧ z.2.1 ≤ ms)
    (w1 : Cond.methodLink own index y ∈ zWs) (w2 : Cond.static y ∈ zWs) (w4 : Cond.initialized y.cls ∈ zWs) (w5 : Cond.code y bytes maxL ret ∈ zWs) (hlen : As.length = n) (hst : st = As.reverse ++ rest) (hrm : Nat.ble (rest.map fun v => v.category).sum 8 = true) (d : decode cc pc = .ok (.invokestatic index, 3)) (kk : ∀ (r : Int64) (h1 : zH), zJ B Z Q (F r h1) (pc + 3) lv (.long r :: rest) h1 z) : zJ B Z Q (zb2 f F) pc lv st h z :=
  z_bind (fun u hu u2 hu2 => z_callS (rest := rest) (st0 := st) (v := some (.long u.1)) C (hM u hu) hn hk hx hroom (fun _ q => nomatch q) w1 w2 w4 w5 hlen hst hrm d (kk u.1 u.2 u2 hu2))
theorem z_csE {y : MethodName} {bytes : ByteArray} {maxL index n k' k mc ms : Nat} {ret : Option FieldType} {As : List Value} {f : Option (UInt64 × zH)} {F : UInt64 → zH → Option α} (C : zOk B Z cc own (zR k mc ms) nL) (rest : List Value) (hM : ∀ u, f = some u → zM Z.1.2.1 B Z.2.2.1 Z.2.2.2.1 y bytes maxL ret k' 0 0 none (As) h ((fun u => (some (.double u.1), u.2) : UInt64 × zH → Option Value × zH) u).1 ((fun u => (some (.double u.1), u.2) : UInt64 × zH → Option Value × zH) u).2) (hn : zNm y n) (hk : Nat.ble (k' + 1) k = true) (hx : Nat.ble (8 + (maxL + 11) + 64 * k') (64 * k) = true) (hroom : z.1 ≤ mc ∧ z.2.1 ≤ ms)
    (w1 : Cond.methodLink own index y ∈ zWs) (w2 : Cond.static y ∈ zWs) (w4 : Cond.initialized y.cls ∈ zWs) (w5 : Cond.code y bytes maxL ret ∈ zWs) (hlen : As.length = n) (hst : st = As.reverse ++ rest) (hrm : Nat.ble (rest.map fun v => v.category).sum 8 = true) (d : decode cc pc = .ok (.invokestatic index, 3)) (kk : ∀ (r : UInt64) (h1 : zH), zJ B Z Q (F r h1) (pc + 3) lv (.double r :: rest) h1 z) : zJ B Z Q (zb2 f F) pc lv st h z :=
  z_bind (fun u hu u2 hu2 => z_callS (rest := rest) (st0 := st) (v := some (.double u.1)) C (hM u hu) hn hk hx hroom (fun _ q => nomatch q) w1 w2 w4 w5 hlen hst hrm d (kk u.1 u.2 u2 hu2))
theorem z_csR {y : MethodName} {bytes : ByteArray} {maxL index n k' k mc ms : Nat} {ret : Option FieldType} {As : List Value} {f : Option (Int32)} {F : Int32 → Option α} (C : zOk B Z cc own (zR k mc ms) nL) (rest : List Value) (hM : ∀ u, f = some u → zM Z.1.2.1 B Z.2.2.1 Z.2.2.2.1 y bytes maxL ret k' 0 0 none (As) h ((fun r => (some (.int r), h) : Int32 → Option Value × zH) u).1 ((fun r => (some (.int r), h) : Int32 → Option Value × zH) u).2) (hn : zNm y n) (hk : Nat.ble (k' + 1) k = true) (hx : Nat.ble (8 + (maxL + 11) + 64 * k') (64 * k) = true) (hroom : z.1 ≤ mc ∧ z.2.1 ≤ ms)
    (w1 : Cond.methodLink own index y ∈ zWs) (w2 : Cond.static y ∈ zWs) (w4 : Cond.initialized y.cls ∈ zWs) (w5 : Cond.code y bytes maxL ret ∈ zWs) (hlen : As.length = n) (hst : st = As.reverse ++ rest) (hrm : Nat.ble (rest.map fun v => v.category).sum 8 = true) (d : decode cc pc = .ok (.invokestatic index, 3)) (kk : ∀ (r : Int32), zJ B Z Q (F r) (pc + 3) lv (.int r :: rest) h z) : zJ B Z Q (f.bind F) pc lv st h z :=
  z_bind (fun u hu u2 hu2 => z_callS (rest := rest) (st0 := st) (v := some (.int u)) C (hM u hu) hn hk hx hroom (fun _ q => nomatch q) w1 w2 w4 w5 hlen hst hrm d (kk u u2 hu2))
theorem z_csJ {y : MethodName} {bytes : ByteArray} {maxL index n k' k mc ms : Nat} {ret : Option FieldType} {As : List Value} {f : Option (Int64)} {F : Int64 → Option α} (C : zOk B Z cc own (zR k mc ms) nL) (rest : List Value) (hM : ∀ u, f = some u → zM Z.1.2.1 B Z.2.2.1 Z.2.2.2.1 y bytes maxL ret k' 0 0 none (As) h ((fun r => (some (.long r), h) : Int64 → Option Value × zH) u).1 ((fun r => (some (.long r), h) : Int64 → Option Value × zH) u).2) (hn : zNm y n) (hk : Nat.ble (k' + 1) k = true) (hx : Nat.ble (8 + (maxL + 11) + 64 * k') (64 * k) = true) (hroom : z.1 ≤ mc ∧ z.2.1 ≤ ms)
    (w1 : Cond.methodLink own index y ∈ zWs) (w2 : Cond.static y ∈ zWs) (w4 : Cond.initialized y.cls ∈ zWs) (w5 : Cond.code y bytes maxL ret ∈ zWs) (hlen : As.length = n) (hst : st = As.reverse ++ rest) (hrm : Nat.ble (rest.map fun v => v.category).sum 8 = true) (d : decode cc pc = .ok (.invokestatic index, 3)) (kk : ∀ (r : Int64), zJ B Z Q (F r) (pc + 3) lv (.long r :: rest) h z) : zJ B Z Q (f.bind F) pc lv st h z :=
  z_bind (fun u hu u2 hu2 => z_callS (rest := rest) (st0 := st) (v := some (.long u)) C (hM u hu) hn hk hx hroom (fun _ q => nomatch q) w1 w2 w4 w5 hlen hst hrm d (kk u u2 hu2))
theorem z_csD {y : MethodName} {bytes : ByteArray} {maxL index n k' k mc ms : Nat} {ret : Option FieldType} {As : List Value} {f : Option (UInt64)} {F : UInt64 → Option α} (C : zOk B Z cc own (zR k mc ms) nL) (rest : List Value) (hM : ∀ u, f = some u → zM Z.1.2.1 B Z.2.2.1 Z.2.2.2.1 y bytes maxL ret k' 0 0 none (As) h ((fun r => (some (.double r), h) : UInt64 → Option Value × zH) u).1 ((fun r => (some (.double r), h) : UInt64 → Option Value × zH) u).2) (hn : zNm y n) (hk : Nat.ble (k' + 1) k = true) (hx : Nat.ble (8 + (maxL + 11) + 64 * k') (64 * k) = true) (hroom : z.1 ≤ mc ∧ z.2.1 ≤ ms)
    (w1 : Cond.methodLink own index y ∈ zWs) (w2 : Cond.static y ∈ zWs) (w4 : Cond.initialized y.cls ∈ zWs) (w5 : Cond.code y bytes maxL ret ∈ zWs) (hlen : As.length = n) (hst : st = As.reverse ++ rest) (hrm : Nat.ble (rest.map fun v => v.category).sum 8 = true) (d : decode cc pc = .ok (.invokestatic index, 3)) (kk : ∀ (r : UInt64), zJ B Z Q (F r) (pc + 3) lv (.double r :: rest) h z) : zJ B Z Q (f.bind F) pc lv st h z :=
  z_bind (fun u hu u2 hu2 => z_callS (rest := rest) (st0 := st) (v := some (.double u)) C (hM u hu) hn hk hx hroom (fun _ q => nomatch q) w1 w2 w4 w5 hlen hst hrm d (kk u u2 hu2))
theorem z_cnV {y : MethodName} {bytes : ByteArray} {maxL index n k' k mc ms : Nat} {ret : Option FieldType} {host : String} {As : List Value} {f : Option (zH)} {F : zH → Option α} (C : zOk B Z cc own (zR k mc ms) nL) (rest : List Value) (hM : ∀ u, f = some u → zM Z.1.2.1 B Z.2.2.1 Z.2.2.2.1 y bytes maxL ret k' 0 0 none (As) h ((fun h1 => (none, h1) : zH → Option Value × zH) u).1 ((fun h1 => (none, h1) : zH → Option Value × zH) u).2) (hn : zNm y n) (hk : Nat.ble (k' + 1) k = true) (hx : Nat.ble (8 + (maxL + 11) + 64 * k') (64 * k) = true) (hroom : z.1 ≤ mc ∧ z.2.1 ≤ ms)
    (w1 : va_Nw (.methodLinkNest own index y host) Z.1.2.2.2.2) (w2 : Cond.static y ∈ zWs) (w4 : Cond.initialized y.cls ∈ zWs) (w5 : Cond.code y bytes maxL ret ∈ zWs) (hlen : As.length = n) (hst : st = As.reverse ++ rest) (hrm : Nat.ble (rest.map fun v => v.category).sum 8 = true) (d : decode cc pc = .ok (.invokestatic index, 3)) (kk : ∀ (h1 : zH), zJ B Z Q (F h1) (pc + 3) lv (rest) h1 z) : zJ B Z Q (f.bind F) pc lv st h z :=
  z_bind (fun u hu u2 hu2 => z_callN (rest := rest) (st0 := st) (v := none) C (hM u hu) hn hk hx hroom (fun _ q => nomatch q) w1 w2 w4 w5 hlen hst hrm d (kk u u2 hu2))
theorem z_cnI {y : MethodName} {bytes : ByteArray} {maxL index n k' k mc ms : Nat} {ret : Option FieldType} {host : String} {As : List Value} {f : Option (Int32 × zH)} {F : Int32 → zH → Option α} (C : zOk B Z cc own (zR k mc ms) nL) (rest : List Value) (hM : ∀ u, f = some u → zM Z.1.2.1 B Z.2.2.1 Z.2.2.2.1 y bytes maxL ret k' 0 0 none (As) h ((fun u => (some (.int u.1), u.2) : Int32 × zH → Option Value × zH) u).1 ((fun u => (some (.int u.1), u.2) : Int32 × zH → Option Value × zH) u).2) (hn : zNm y n) (hk : Nat.ble (k' + 1) k = true) (hx : Nat.ble (8 + (maxL + 11) + 64 * k') (64 * k) = true) (hroom : z.1 ≤ mc ∧ z.2.1 ≤ ms)
    (w1 : va_Nw (.methodLinkNest own index y host) Z.1.2.2.2.2) (w2 : Cond.static y ∈ zWs) (w4 : Cond.initialized y.cls ∈ zWs) (w5 : Cond.code y bytes maxL ret ∈ zWs) (hlen : As.length = n) (hst : st = As.reverse ++ rest) (hrm : Nat.ble (rest.map fun v => v.category).sum 8 = true) (d : decode cc pc = .ok (.invokestatic index, 3)) (kk : ∀ (r : Int32) (h1 : zH), zJ B Z Q (F r h1) (pc + 3) lv (.int r :: rest) h1 z) : zJ B Z Q (zb2 f F) pc lv st h z :=
  z_bind (fun u hu u2 hu2 => z_callN (rest := rest) (st0 := st) (v := some (.int u.1)) C (hM u hu) hn hk hx hroom (fun _ q => nomatch q) w1 w2 w4 w5 hlen hst hrm d (kk u.1 u.2 u2 hu2))
theorem z_cnL {y : MethodName} {bytes : ByteArray} {maxL index n k' k mc ms : Nat} {ret : Option FieldType} {host : String} {As : List Value} {f : Option (Int64 × zH)} {F : Int64 → zH → Option α} (C : zOk B Z cc own (zR k mc ms) nL) (rest : List Value) (hM : ∀ u, f = some u → zM Z.1.2.1 B Z.2.2.1 Z.2.2.2.1 y bytes maxL ret k' 0 0 none (As) h ((fun u => (some (.long u.1), u.2) : Int64 × zH → Option Value × zH) u).1 ((fun u => (some (.long u.1), u.2) : Int64 × zH → Option Value × zH) u).2) (hn : zNm y n) (hk : Nat.ble (k' + 1) k = true) (hx : Nat.ble (8 + (maxL + 11) + 64 * k') (64 * k) = true) (hroom : z.1 ≤ mc ∧ z.2.1 ≤ ms)
    (w1 : va_Nw (.methodLinkNest own index y host) Z.1.2.2.2.2) (w2 : Cond.static y ∈ zWs) (w4 : Cond.initialized y.cls ∈ zWs) (w5 : Cond.code y bytes maxL ret ∈ zWs) (hlen : As.length = n) (hst : st = As.reverse ++ rest) (hrm : Nat.ble (rest.map fun v => v.category).sum 8 = true) (d : decode cc pc = .ok (.invokestatic index, 3)) (kk : ∀ (r : Int64) (h1 : zH), zJ B Z Q (F r h1) (pc + 3) lv (.long r :: rest) h1 z) : zJ B Z Q (zb2 f F) pc lv st h z :=
  z_bind (fun u hu u2 hu2 => z_callN (rest := rest) (st0 := st) (v := some (.long u.1)) C (hM u hu) hn hk hx hroom (fun _ q => nomatch q) w1 w2 w4 w5 hlen hst hrm d (kk u.1 u.2 u2 hu2))
theorem z_cnE {y : MethodName} {bytes : ByteArray} {maxL index n k' k mc ms : Nat} {ret : Option FieldType} {host : String} {As : List Value} {f : Option (UInt64 × zH)} {F : UInt64 → zH → Option α} (C : zOk B Z cc own (zR k mc ms) nL) (rest : List Value) (hM : ∀ u, f = some u → zM Z.1.2.1 B Z.2.2.1 Z.2.2.2.1 y bytes maxL ret k' 0 0 none (As) h ((fun u => (some (.double u.1), u.2) : UInt64 × zH → Option Value × zH) u).1 ((fun u => (some (.double u.1), u.2) : UInt64 × zH → Option Value × zH) u).2) (hn : zNm y n) (hk : Nat.ble (k' + 1) k = true) (hx : Nat.ble (8 + (maxL + 11) + 64 * k') (64 * k) = true) (hroom : z.1 ≤ mc ∧ z.2.1 ≤ ms)
    (w1 : va_Nw (.methodLinkNest own index y host) Z.1.2.2.2.2) (w2 : Cond.static y ∈ zWs) (w4 : Cond.initialized y.cls ∈ zWs) (w5 : Cond.code y bytes maxL ret ∈ zWs) (hlen : As.length = n) (hst : st = As.reverse ++ rest) (hrm : Nat.ble (rest.map fun v => v.category).sum 8 = true) (d : decode cc pc = .ok (.invokestatic index, 3)) (kk : ∀ (r : UInt64) (h1 : zH), zJ B Z Q (F r h1) (pc + 3) lv (.double r :: rest) h1 z) : zJ B Z Q (zb2 f F) pc lv st h z :=
  z_bind (fun u hu u2 hu2 => z_callN (rest := rest) (st0 := st) (v := some (.double u.1)) C (hM u hu) hn hk hx hroom (fun _ q => nomatch q) w1 w2 w4 w5 hlen hst hrm d (kk u.1 u.2 u2 hu2))
theorem z_cnR {y : MethodName} {bytes : ByteArray} {maxL index n k' k mc ms : Nat} {ret : Option FieldType} {host : String} {As : List Value} {f : Option (Int32)} {F : Int32 → Option α} (C : zOk B Z cc own (zR k mc ms) nL) (rest : List Value) (hM : ∀ u, f = some u → zM Z.1.2.1 B Z.2.2.1 Z.2.2.2.1 y bytes maxL ret k' 0 0 none (As) h ((fun r => (some (.int r), h) : Int32 → Option Value × zH) u).1 ((fun r => (some (.int r), h) : Int32 → Option Value × zH) u).2) (hn : zNm y n) (hk : Nat.ble (k' + 1) k = true) (hx : Nat.ble (8 + (maxL + 11) + 64 * k') (64 * k) = true) (hroom : z.1 ≤ mc ∧ z.2.1 ≤ ms)
    (w1 : va_Nw (.methodLinkNest own index y host) Z.1.2.2.2.2) (w2 : Cond.static y ∈ zWs) (w4 : Cond.initialized y.cls ∈ zWs) (w5 : Cond.code y bytes maxL ret ∈ zWs) (hlen : As.length = n) (hst : st = As.reverse ++ rest) (hrm : Nat.ble (rest.map fun v => v.category).sum 8 = true) (d : decode cc pc = .ok (.invokestatic index, 3)) (kk : ∀ (r : Int32), zJ B Z Q (F r) (pc + 3) lv (.int r :: rest) h z) : zJ B Z Q (f.bind F) pc lv st h z :=
  z_bind (fun u hu u2 hu2 => z_callN (rest := rest) (st0 := st) (v := some (.int u)) C (hM u hu) hn hk hx hroom (fun _ q => nomatch q) w1 w2 w4 w5 hlen hst hrm d (kk u u2 hu2))
theorem z_cnJ {y : MethodName} {bytes : ByteArray} {maxL index n k' k mc ms : Nat} {ret : Option FieldType} {host : String} {As : List Value} {f : Option (Int64)} {F : Int64 → Option α} (C : zOk B Z cc own (zR k mc ms) nL) (rest : List Value) (hM : ∀ u, f = some u → zM Z.1.2.1 B Z.2.2.1 Z.2.2.2.1 y bytes maxL ret k' 0 0 none (As) h ((fun r => (some (.long r), h) : Int64 → Option Value × zH) u).1 ((fun r => (some (.long r), h) : Int64 → Option Value × zH) u).2) (hn : zNm y n) (hk : Nat.ble (k' + 1) k = true) (hx : Nat.ble (8 + (maxL + 11) + 64 * k') (64 * k) = true) (hroom : z.1 ≤ mc ∧ z.2.1 ≤ ms)
    (w1 : va_Nw (.methodLinkNest own index y host) Z.1.2.2.2.2) (w2 : Cond.static y ∈ zWs) (w4 : Cond.initialized y.cls ∈ zWs) (w5 : Cond.code y bytes maxL ret ∈ zWs) (hlen : As.length = n) (hst : st = As.reverse ++ rest) (hrm : Nat.ble (rest.map fun v => v.category).sum 8 = true) (d : decode cc pc = .ok (.invokestatic index, 3)) (kk : ∀ (r : Int64), zJ B Z Q (F r) (pc + 3) lv (.long r :: rest) h z) : zJ B Z Q (f.bind F) pc lv st h z :=
  z_bind (fun u hu u2 hu2 => z_callN (rest := rest) (st0 := st) (v := some (.long u)) C (hM u hu) hn hk hx hroom (fun _ q => nomatch q) w1 w2 w4 w5 hlen hst hrm d (kk u u2 hu2))
theorem z_cnD {y : MethodName} {bytes : ByteArray} {maxL index n k' k mc ms : Nat} {ret : Option FieldType} {host : String} {As : List Value} {f : Option (UInt64)} {F : UInt64 → Option α} (C : zOk B Z cc own (zR k mc ms) nL) (rest : List Value) (hM : ∀ u, f = some u → zM Z.1.2.1 B Z.2.2.1 Z.2.2.2.1 y bytes maxL ret k' 0 0 none (As) h ((fun r => (some (.double r), h) : UInt64 → Option Value × zH) u).1 ((fun r => (some (.double r), h) : UInt64 → Option Value × zH) u).2) (hn : zNm y n) (hk : Nat.ble (k' + 1) k = true) (hx : Nat.ble (8 + (maxL + 11) + 64 * k') (64 * k) = true) (hroom : z.1 ≤ mc ∧ z.2.1 ≤ ms)
    (w1 : va_Nw (.methodLinkNest own index y host) Z.1.2.2.2.2) (w2 : Cond.static y ∈ zWs) (w4 : Cond.initialized y.cls ∈ zWs) (w5 : Cond.code y bytes maxL ret ∈ zWs) (hlen : As.length = n) (hst : st = As.reverse ++ rest) (hrm : Nat.ble (rest.map fun v => v.category).sum 8 = true) (d : decode cc pc = .ok (.invokestatic index, 3)) (kk : ∀ (r : UInt64), zJ B Z Q (F r) (pc + 3) lv (.double r :: rest) h z) : zJ B Z Q (f.bind F) pc lv st h z :=
  z_bind (fun u hu u2 hu2 => z_callN (rest := rest) (st0 := st) (v := some (.double u)) C (hM u hu) hn hk hx hroom (fun _ q => nomatch q) w1 w2 w4 w5 hlen hst hrm d (kk u u2 hu2))
end ZC
end
section
/-! METHODS THAT THROW: the outcome is an exception's number, or an int -/
abbrev zO2 : Type := (Nat ⊕ Int32) × zH
def zQx (B : Nat) (D : va_G) (cA : Nat → ClassId) (u : zO2) : Array Value → State → Outcome → State → Prop := fun _ st oc t => ∃ r, u.1 = .inr r ∧ oc = .returned (some (.int r)) ∧ zP B D cA u.2 t.heap ∧ va_F (fun q => B ≤ q) st t
def zXx (B : Nat) (D : va_G) (cA : Nat → ClassId) (u : zO2) : String → State → State → Prop := fun E st t => ∃ e, u.1 = .inl e ∧ E = zExN e ∧ zP B D cA u.2 t.heap ∧ va_F (fun q => B ≤ q) st t
def zMx (l : Launch) (B : Nat) (D : va_G) (cA : Nat → ClassId) (y : MethodName) (cc : ByteArray) (maxL : Nat) (ret : Option FieldType) (k : Nat) (av : List Value) (h : zH) (u : zO2) : Prop :=
  vx_Met l y (Cond.code y cc maxL ret :: zWs) (zR k 1 6) (zPc B D cA h none av) (zQx B D cA u) (zXx B D cA u) 1 6 (fun q => B ≤ q)
def zEndx (B : Nat) (Z : zC) (u : zO2) : State → Prop := vx_MQ Z.2.1.2.2.1 (zQx B Z.2.2.1 Z.2.2.2.1 u) (zXx B Z.2.2.1 Z.2.2.2.1 u) Z.2.1.2.1 Z.1.2.2.2.2 1 6 (fun q => B ≤ q)
theorem z_metx {l : Launch} {B : Nat} {D : va_G} {cA : Nat → ClassId} {y : MethodName} {cc : ByteArray} {maxL : Nat} {ret : Option FieldType} {k : Nat} {av : List Value} {h : zH} {o : Option zO2} {own : String} (hl : l.stackTraces = false) (hown0 : y.cls = own) (hy : plainName y.cls = true) (hn : Nat.ble (lg_sl av).length maxL = true)
    (walk : ∀ Z : zC, zOk B Z cc own (zR k 1 6) maxL → Z.2.1.2.2.2.1.sig.returnType = ret → Z.1.2.1.stackTraces = false → (∀ x ∈ Z.2.1.2.2.2.2.exceptionTable.toList, False) → zJ B Z (zEndx B Z) o 0 (lv_args 0 av) [] h (z00 Z)) :
    ∀ u, o = some u → zMx l B D cA y cc maxL ret k av h u := by
  intro u hu
  subst hown0
  refine vx_ofW (cc := cc) (maxL := maxL) (ret := ret) hy rfl ?_
  intro p e s m args below meth c s₁ Bd hml hnt hv
  obtain ⟨rfl, ⟨hP, hK, hB, hN, hX⟩, -⟩ := hv
  have hts := atoms_spec (ws := Cond.code y cc maxL ret :: zWs) Bd.pre
  have hown : s.vm.findClass y.cls = some m.cls := findClass_of_methodNamed Bd.named
  have W1 := walk ((p, l, e, zR k 1 6, s), (m, av.toArray, below, meth, c), (D, cA, maxL)) ⟨Bd.exec, Bd.bytes, fun w hw => hts w (List.mem_cons_of_mem _ hw), hown, hK, rfl, hml, hB, hN, hX, Bd.notSynchronized, rfl⟩ Bd.returns hl hnt u hu
  have hll := lv_entry av (n := maxL) (Nat.le_of_ble_eq_true hn)
  rw [lg_entry_eq]
  exact W1 s.heap [] _ hll hP (Nat.le_refl _) va_S.rf
def zBad (e : Nat) : List Cond := [Cond.castable (zExN e) (zExN e), Cond.declares ⟨"java/lang/RuntimeException", "<init>", "()V"⟩, Cond.declares ⟨"java/lang/Exception", "<init>", "()V"⟩, Cond.declares ⟨"java/lang/Throwable", "<init>", "()V"⟩]
/-- what 'throw new E()' in StockLines links -/
def zThr (e ik ic : Nat) : Prop := Cond.classLink RX5 ik (zExN e) ∈ zWs ∧ Cond.initialized (zExN e) ∈ zWs ∧ (∀ w ∈ (vx_at0 RX5 ic (zExN e) ["java/lang/RuntimeException", "java/lang/Exception"]).filter goodWord, w ∈ zWs) ∧ (∀ w ∈ (vx_at0 RX5 ic (zExN e) ["java/lang/RuntimeException", "java/lang/Exception"]).filter (fun w => !goodWord w), w ∈ zBad e) ∧
  (∀ w ∈ Cond.classLink RX5 ik (zExN e) :: Cond.initialized (zExN e) :: vx_at0 RX5 ic (zExN e) ["java/lang/RuntimeException", "java/lang/Exception"], vx_ot w = true) ∧ Bundle.fit (zExN e) = true ∧ (∀ n ∈ ["java/lang/RuntimeException", "java/lang/Exception"], Bundle.fit n = true) ∧ ∀ U, zNb U → va_Nw (.castable (zExN e) (zExN e)) U
theorem zt_good {L : List Cond} (h : ∀ w ∈ L.filter goodWord, w ∈ lw_tbl) : ∀ w ∈ L.filter goodWord, w ∈ zWs := fun w hw => List.mem_filter.mpr ⟨h w hw, (List.mem_filter.mp hw).2⟩
theorem zt_0 : zThr 0 36 38 := ⟨q_122, q_123, zt_good (by decide +kernel), by decide +kernel, by decide +kernel, by decide +kernel, by decide +kernel, fun _ h => h.1⟩
theorem zt_1 : zThr 1 53 55 := ⟨q_177, q_178, zt_good (by decide +kernel), by decide +kernel, by decide +kernel, by decide +kernel, by decide +kernel, fun _ h => h.2.1⟩
theorem zt_2 : zThr 2 73 75 := ⟨q_199, q_200, zt_good (by decide +kernel), by decide +kernel, by decide +kernel, by decide +kernel, by decide +kernel, fun _ h => h.2.2.1⟩
section ZX
variable {B : Nat} {Z : zC} {pc : Nat} {lv : List (Nat × Value)} {st : List Value} {h : zH} {cc : ByteArray} {own : String} {nL k : Nat}
theorem z_throw {e ik ic : Nat} (T : zThr e ik ic) (C : zOk B Z cc RX5 (zR k 1 6) nL) (hl : Z.1.2.1.stackTraces = false) (hnt : ∀ x ∈ Z.2.1.2.2.2.2.exceptionTable.toList, False) (hk : Nat.ble 6 k = true) (hrm : Nat.ble ((st.map fun v => v.category).sum + 81) (64 * k) = true) (d0 : decode cc pc = .ok (.new ik, 3)) (d3 : decode cc (pc + 3) = .ok (.dup, 1)) (d4 : decode cc (pc + 4) = .ok (.invokespecial ic, 3)) (d7 : decode cc (pc + 7) = .ok (.athrow, 1)) : zJ B Z (zEndx B Z) (some (.inl e, h)) pc lv st h (z00 Z) := by
  intro u' eu H locs ls hL hP hz hS
  cases eu
  obtain ⟨hx1, hx2, hts, hown, hK, hR, hml, hB, hN, hX, hlk, hnL⟩ := id C
  obtain ⟨t1, t2, t3, t4, t5, t6, t7, t8⟩ := T
  refine vx_throw0 (names := ["java/lang/RuntimeException", "java/lang/Exception"]) (A := fun q => B ≤ q) hx1 hx2 hl hown t6 t7 (hts _ t1) (hts _ t2) (vx_hat (B := zBad e) (fun w hw => hts w (t3 w hw)) t4 (vx_c (va_Nw.use rfl (t8 _ hN.2.1)) (vx_c (va_Nw.use rfl hN.2.1.2.2.2.1) (vx_c (va_Nw.use rfl hN.2.1.2.2.2.2.1) (vx_c (va_Nw.use rfl hN.2.1.2.2.2.2.2) vx_n))))) t5 hX.1 hX.2 hS (by rw [hml]; exact hL.1) d0 d3 d4 d7 (fun x hx => (hnt x hx).elim) (by rw [hR]; exact Nat.le_of_ble_eq_true hk) (by rw [hR]; exact Nat.le_of_ble_eq_true hrm) (by rw [hR]; exact Nat.le_refl _) (by rw [hR]; exact Nat.le_refl _) hlk (fun t hal hsz hkq => ?_) hS.2.2 (Nat.le_refl _) (Nat.le_refl _)
  exact ⟨e, rfl, rfl, hP.kept hkq, ⟨Nat.le_trans hS.1 hsz, fun q h1 h2 => (hkq q (Nat.lt_of_lt_of_le h1 hS.1)).trans (hS.2.1 q h1 h2)⟩⟩
theorem z_xret (C : zOk B Z cc own (zR k 1 6) nL) (hr : Z.2.1.2.2.2.1.sig.returnType = some .int) {x : Int32} (d : decode cc pc = .ok (.ireturn, 1)) : zJ B Z (zEndx B Z) (some (.inr x, h)) pc lv [.int x] h (z00 Z) := by
  intro u' eu H locs ls hL hP hz hS
  cases eu
  refine W.widen (k := 1) (n := 6) (Nat.zero_le _) (Nat.zero_le _) (vx_ret ?_)
  exact W.iret (v := x) C.1 C.2.1 hr (fun t ht hW => ⟨x, rfl, rfl, by rw [ht]; exact hP, hS.F ht⟩) hS.2.2 d C.2.2.2.2.2.2.2.2.2.2.1
end ZX
end
section
/-! METHODS THAT MAKE OBJECTS: cells come one behind the other; the k-th of a method whose heap began with the ids below n0 has the id n0 + k -/
section ZNW
variable {B : Nat} {Z : zC} {α : Type} {Q : α → State → Prop} {o : Option α} {pc : Nat} {lv : List (Nat × Value)} {st rest : List Value} {h : zH} {cc : ByteArray} {own : String} {nL kk0 mc ms n0 kc sl : Nat} {z : Nat × Nat × Nat}
theorem z_objInit (C : zOk B Z cc own (zR kk0 mc ms) nL) {index a : Nat} (w1 : Cond.methodLink own index objectInit ∈ zWs) (w2 : Cond.instanceMethod objectInit ∈ zWs) (w3 : Cond.code objectInit ⟨#[0xb1]⟩ 1 none ∈ zWs) (hk : Nat.ble 1 kk0 = true) (hrm : Nat.ble ((rest.map fun v => v.category).sum + 12) (64 * kk0) = true) (d : decode cc pc = .ok (.invokespecial index, 3)) (k : zJ B Z Q o (pc + 3) lv rest h z) : zJ B Z Q o pc lv (.ref a :: rest) h z := by
  intro u hu H locs ls hL hP hz hS
  obtain ⟨hx1, hx2, hts, hown, hK, hR, hml, hB, hN, hX, hlk, hnL⟩ := id C
  refine W.objInit hx1 hx2 hown (hts _ w1) (hts _ w2) (hts _ w3) rfl (by rw [hml]; exact hL.1) rfl d (by rw [hR]; exact Nat.le_of_ble_eq_true hk) (by rw [hR]; show 2 * 0 + _ + 12 ≤ _; rw [Nat.mul_zero, Nat.zero_add]; exact Nat.le_of_ble_eq_true hrm) ?_
  exact k u hu H locs ls hL hP hz hS
theorem z_size {T : State} {H : Heap} {locs : List Loc} {slots : Nat} (hsz : Z.1.2.2.2.2.heap.size = B + n0) (hT : T.heap = H) (hz : Z.1.2.2.2.2.heap.size + kc ≤ H.size) (X : Stand Z.1.1 Z.1.2.1 Z.1.2.2.1 Z.1.2.2.2.1 Z.1.2.2.2.2 Z.2.1.1 Z.2.1.2.1 Z.2.1.2.2.1 Z.2.1.2.2.2.1 Z.2.1.2.2.2.2 T locs kc slots) : H.size = B + (n0 + kc) := by
  have h1 := X.heapSize
  rw [hT] at h1
  omega
theorem z_sized {H : Heap} {locs : List Loc} {slots : Nat} {Qs : State → Prop} {g : JFrame} (hsz : Z.1.2.2.2.2.heap.size = B + n0) (hz : Z.1.2.2.2.2.heap.size + kc ≤ H.size) (k : H.size = B + (n0 + kc) → W Z.1.1 Z.1.2.1 Z.1.2.2.1 Z.1.2.2.2.1 Z.1.2.2.2.2 Z.2.1.1 Z.2.1.2.1 Z.2.1.2.2.1 Z.2.1.2.2.2.1 Z.2.1.2.2.2.2 H locs kc slots Qs g) : W Z.1.1 Z.1.2.1 Z.1.2.2.1 Z.1.2.2.2.1 Z.1.2.2.2.2 Z.2.1.1 Z.2.1.2.1 Z.2.1.2.2.1 Z.2.1.2.2.2.1 Z.2.1.2.2.2.2 H locs kc slots Qs g := fun T hT X => k (z_size hsz hT hz X) T hT X
set_option maxHeartbeats 200000 in
theorem z_new (C : zOk B Z cc own (zR kk0 mc ms) nL) (hsz : Z.1.2.2.2.2.heap.size = B + n0) {ci N index : Nat} {Cn : String} {T : u_T} {ty : Nat → FieldType} {F : zH → Option α} (fs : List Value) (hc : zCl ci Cn T N ty) (hfs : ∀ j, j < N → defaultValue (ty j) = vp_V fs j) (hfz : fs.map (zv B) = fs) (w1 : Cond.classLink own index Cn ∈ zWs) (w2 : Cond.instantiable Cn N ∈ zWs) (w3 : Cond.initialized Cn ∈ zWs) (hk : Nat.ble (kc + 1) mc = true) (hs : Nat.ble (sl + N) ms = true) (d : decode cc pc = .ok (.new index, 3)) (k : ∀ h1, zJ B Z Q (F h1) (pc + 3) lv (.ref (B + (n0 + kc)) :: st) h1 (kc + 1, sl + N, Z.1.2.2.2.2.heap.size + (kc + 1))) : zJ B Z Q (zlet (zset h (n0 + kc) (.inr (ci, fs))) F) pc lv st h (kc, sl, Z.1.2.2.2.2.heap.size + kc) := by
  intro u hu H locs ls hL hP hz hS
  obtain ⟨hx1, hx2, hts, hown, hK, hR, hml, hB, hN, hX, hlk, hnL⟩ := id C
  refine z_sized hsz hz (fun hH => ?_)
  have hKn := hK.1 ci _ hc.1
  refine W.newcK (H := H) hx1 hx2 hown (hts _ w1) (hts _ w2) (hts _ w3) rfl d (by rw [hR]; exact Nat.le_of_ble_eq_true hk) (by rw [hR]; exact Nat.le_of_ble_eq_true hs) hKn.2.1 hH fun H1 kC hkC e1 z1 o1 => ?_
  have e2 : va_at Z.2.2.1 vwCl (B + (n0 + kc), ze B Z.2.2.2.1 (.inr (ci, fs))) H1 := by
    refine ⟨_, hc.1, ?_⟩
    show t_OB (B + (n0 + kc)) _ _ _ H1 (vp_V (fs.map (zv B)))
    rw [hfz]
    exact (u_born ty hts hc.2.1 hKn hkC e1 hc.2.2.1).to hfs
  exact k (zset h (n0 + kc) (.inr (ci, fs))) u hu H1 locs ls hL (hP.new e2 (fun q hq => o1 q (by rw [← hH]; exact hq))) (by show _ + (kc + 1) ≤ _; rw [z1]; omega) ⟨by rw [z1, ← hH]; exact Nat.le_succ_of_le hS.1, fun q h1 h2 => (o1 q (by rw [← hH]; exact Nat.lt_of_lt_of_le h1 hS.1)).trans (hS.2.1 q h1 h2), hS.2.2⟩
set_option maxHeartbeats 200000 in
/-- a new row of ints -/
theorem z_newI (C : zOk B Z cc own (zR kk0 mc ms) nL) (hsz : Z.1.2.2.2.2.heap.size = B + n0) {n : Int32} {F : zH → Option α} (N : Nat) (w : Cond.arrayClass .int ∈ zWs) (hn : ¬ n < 0) (hN : n.toNatClampNeg = N) (hb : Nat.ble (N * 4) 536870912 = true) (hk : Nat.ble (kc + 1) mc = true) (hs : Nat.ble (sl + N) ms = true) (d : decode cc pc = .ok (.newarray .int, 2)) (k : ∀ h1, zJ B Z Q (F h1) (pc + 2) lv (.ref (B + (n0 + kc)) :: st) h1 (kc + 1, sl + N, Z.1.2.2.2.2.heap.size + (kc + 1))) : zJ B Z Q (zlet (zset h (n0 + kc) (.inl (0, N, .inl (fun _ => 0)))) F) pc lv (.int n :: st) h (kc, sl, Z.1.2.2.2.2.heap.size + kc) := by
  intro u hu H locs ls hL hP hz hS
  obtain ⟨hx1, hx2, hts, hown, hK, hR, hml, hB, hN9, hX, hlk, hnL⟩ := id C
  refine z_sized hsz hz (fun hH => ?_)
  refine va_newaK (H := H) (atype := .int) hx1 hx2 (hts _ w) rfl d rfl hn hN (Nat.le_of_ble_eq_true hb) (by rw [hR]; exact Nat.le_of_ble_eq_true hk) (by rw [hR]; exact Nat.le_of_ble_eq_true hs) hH fun H1 cA' e1 z1 o1 hAr hNm => ?_
  have hcA : cA' = Z.2.2.2.1 0 := Option.some.inj (hNm.symm.trans (hK.2 0 _ rfl).2)
  subst hcA
  have e2 : va_at Z.2.2.1 vwCl (B + (n0 + kc), ze B Z.2.2.2.1 (.inl (0, N, .inl (fun _ => 0)))) H1 := by
    show H1[B + (n0 + kc)]? = some (vp_cell (Z.2.2.2.1 0) (N, .inl (fun _ => 0)))
    rw [e1, vp_cell_i]
    rfl
  exact k (zset h (n0 + kc) (.inl (0, N, .inl (fun _ => 0)))) u hu H1 locs ls hL (hP.new e2 (fun q hq => o1 q (by rw [← hH]; exact hq))) (by show _ + (kc + 1) ≤ _; rw [z1]; omega) ⟨by rw [z1, ← hH]; exact Nat.le_succ_of_le hS.1, fun q h1 h2 => (o1 q (by rw [← hH]; exact Nat.lt_of_lt_of_le h1 hS.1)).trans (hS.2.1 q h1 h2), hS.2.2⟩
set_option maxHeartbeats 200000 in
/-- a new row of longs -/
theorem z_newL (C : zOk B Z cc own (zR kk0 mc ms) nL) (hsz : Z.1.2.2.2.2.heap.size = B + n0) {n : Int32} {F : zH → Option α} (N : Nat) (w : Cond.arrayClass .long ∈ zWs) (hn : ¬ n < 0) (hN : n.toNatClampNeg = N) (hb : Nat.ble (N * 8) 536870912 = true) (hk : Nat.ble (kc + 1) mc = true) (hs : Nat.ble (sl + N) ms = true) (d : decode cc pc = .ok (.newarray .long, 2)) (k : ∀ h1, zJ B Z Q (F h1) (pc + 2) lv (.ref (B + (n0 + kc)) :: st) h1 (kc + 1, sl + N, Z.1.2.2.2.2.heap.size + (kc + 1))) : zJ B Z Q (zlet (zset h (n0 + kc) (.inl (1, N, .inr (.inl (fun _ => 0))))) F) pc lv (.int n :: st) h (kc, sl, Z.1.2.2.2.2.heap.size + kc) := by
  intro u hu H locs ls hL hP hz hS
  obtain ⟨hx1, hx2, hts, hown, hK, hR, hml, hB, hN9, hX, hlk, hnL⟩ := id C
  refine z_sized hsz hz (fun hH => ?_)
  refine va_newaK (H := H) (atype := .long) hx1 hx2 (hts _ w) rfl d rfl hn hN (Nat.le_of_ble_eq_true hb) (by rw [hR]; exact Nat.le_of_ble_eq_true hk) (by rw [hR]; exact Nat.le_of_ble_eq_true hs) hH fun H1 cA' e1 z1 o1 hAr hNm => ?_
  have hcA : cA' = Z.2.2.2.1 1 := Option.some.inj (hNm.symm.trans (hK.2 1 _ rfl).2)
  subst hcA
  have e2 : va_at Z.2.2.1 vwCl (B + (n0 + kc), ze B Z.2.2.2.1 (.inl (1, N, .inr (.inl (fun _ => 0))))) H1 := by
    show H1[B + (n0 + kc)]? = some (vp_cell (Z.2.2.2.1 1) (N, .inr (.inl (fun _ => 0))))
    rw [e1, vp_cell_l]
    rfl
  exact k (zset h (n0 + kc) (.inl (1, N, .inr (.inl (fun _ => 0))))) u hu H1 locs ls hL (hP.new e2 (fun q hq => o1 q (by rw [← hH]; exact hq))) (by show _ + (kc + 1) ≤ _; rw [z1]; omega) ⟨by rw [z1, ← hH]; exact Nat.le_succ_of_le hS.1, fun q h1 h2 => (o1 q (by rw [← hH]; exact Nat.lt_of_lt_of_le h1 hS.1)).trans (hS.2.1 q h1 h2), hS.2.2⟩
set_option maxHeartbeats 200000 in
/-- a new row of references -/
theorem z_newQ (C : zOk B Z cc own (zR kk0 mc ms) nL) (hsz : Z.1.2.2.2.2.heap.size = B + n0) {n : Int32} {F : zH → Option α} (N c : Nat) {index : Nat} {Cn : String} (hc : c < 5) (ht : zty c = .object Cn) (hover : va_AO Cn Z.1.2.2.2.2) (w : Cond.classLink own index Cn ∈ zWs) (hn : ¬ n < 0) (hN : n.toNatClampNeg = N) (hb : Nat.ble (N * 4) 536870912 = true) (hk : Nat.ble (kc + 1) mc = true) (hs : Nat.ble (sl + N) ms = true) (d : decode cc pc = .ok (.anewarray index, 3)) (k : ∀ h1, zJ B Z Q (F h1) (pc + 3) lv (.ref (B + (n0 + kc)) :: st) h1 (kc + 1, sl + N, Z.1.2.2.2.2.heap.size + (kc + 1))) : zJ B Z Q (zlet (zset h (n0 + kc) (.inl (c, N, .inr (.inr (.inr (.inr (fun _ => none))))))) F) pc lv (.int n :: st) h (kc, sl, Z.1.2.2.2.2.heap.size + kc) := by
  intro u hu H locs ls hL hP hz hS
  obtain ⟨hx1, hx2, hts, hown, hK, hR, hml, hB, hN9, hX, hlk, hnL⟩ := id C
  subst hN
  refine z_sized hsz hz (fun hH => ?_)
  refine W.anew (H := H) hx1 hx2 hown (hts _ w) (va_AO.use hover) rfl d rfl hn (Nat.le_of_ble_eq_true hb) (by rw [hR]; exact Nat.le_of_ble_eq_true hk) (by rw [hR]; exact Nat.le_of_ble_eq_true hs) fun cA' kA comp f1 f2 f3 f4 => ?_
  have hT2 := (hK.2 c _ (ztys_at _ hc)).2
  rw [ht] at hT2
  obtain ⟨kA2, comp2, k1, k2, k3, k4⟩ := hT2
  have hcA : cA' = Z.2.2.2.1 c := Option.some.inj (f1.symm.trans k4)
  subst hcA
  generalize hH1 : H.push ({ cls := Z.2.2.2.1 c, slots := Array.replicate n.toNatClampNeg .null, vm := .none } : Cell) = H1
  have z1 : H1.size = H.size + 1 := by rw [← hH1, Array.size_push]
  have e1 : H1[H.size]? = some (arrV (Z.2.2.2.1 c) n.toNatClampNeg (fun _ => .null)) := by rw [← hH1, Array.getElem?_push_size, ← arrV_new]
  have o1 : ∀ q : Nat, q < H.size → H1[q]? = H[q]? := fun q hq => by rw [← hH1, Array.getElem?_push, if_neg (Nat.ne_of_lt hq)]
  have e2 : va_at Z.2.2.1 vwCl (B + (n0 + kc), ze B Z.2.2.2.1 (.inl (c, n.toNatClampNeg, .inr (.inr (.inr (.inr (fun _ => none))))))) H1 := by
    show H1[B + (n0 + kc)]? = some (vp_cell (Z.2.2.2.1 c) (n.toNatClampNeg, .inr (.inr (.inr (.inr (fun _ => none))))))
    rw [← hH, e1, vp_cell_q]
    rfl
  have := k (zset h (n0 + kc) (.inl (c, n.toNatClampNeg, .inr (.inr (.inr (.inr (fun _ => none))))))) u hu H1 locs ls hL (hP.new e2 o1) (by show _ + (kc + 1) ≤ _; rw [z1]; omega) ⟨by rw [z1]; exact Nat.le_succ_of_le hS.1, fun q h1 h2 => (o1 q (Nat.lt_of_lt_of_le h1 hS.1)).trans (hS.2.1 q h1 h2), hS.2.2⟩
  rw [← hH] at this
  exact this
theorem z_putFR (C : zOk B Z cc own (zR kk0 mc ms) nL) (hin : Z.2.1.2.2.2.1.name = "<init>") {ci N index a : Nat} {Cn : String} {T : u_T} {ty : Nat → FieldType} (hc : zCl ci Cn T N ty) (k : Nat) (hk : k < N) (hw : Cond.fieldLink own index (T k).1 (T k).2.1 (T k).2.2.1 ∈ zWs) (hfin : (T k).2.2.2 = true) (hdecl : (T k).1 = own) (hn : ∀ r : Nat, narrow (ty k) (.ref r) = .ref r ∧ fits (ty k) (.ref r) = true) (d : decode cc pc = .ok (.putfield index, 3)) {r : Nat} {F : zH → Option α} (kk : ∀ h1, zJ B Z Q (F h1) (pc + 3) lv st h1 z) : zJ B Z Q ((zp h a ci k (.ref r)).bind F) pc lv (.ref (B + r) :: .ref (B + a) :: st) h z :=
  z_bind (fun h1 hh u hu H locs ls hL hP hz hS => by
    have hkk := kk h1
    obtain ⟨fs, e1, e2, rfl⟩ := zp_of hh
    have hl : k < (fs.map (zv B)).length := by rw [List.length_map]; exact e2
    have hap := va_apart (own := own) C.2.2.1 hc.2.1 ty hc.2.2.1 hc.2.2.2 C.2.2.2.2.1 hc.1
    obtain ⟨r9, h1', cell, q1, q2, q3, q4⟩ := hP a _ e1
    have hr : r9 = (Cn, T, N) := Option.some.inj (h1'.symm.trans hc.1)
    subst hr
    obtain ⟨hSl, hfc, kC, hkC, hkind⟩ := C.2.2.2.2.1.1 ci _ hc.1
    obtain ⟨cf, kf, fi, f, hi, hsl⟩ := hSl k hk
    have hlay := C.2.2.1 _ (hc.2.1 _ (u_in_lay hk))
    unfold u_lay at hlay
    rw [if_pos hfin] at hlay
    have hst := (u_facts hfc hkC (u_lays C.2.2.1 hc.2.1 hk) hi).1
    have hcf : Z.2.1.1.cls = cf := by
      obtain ⟨_, _, c', _, _, _, -, -, hf', -, -, -, hown2, -⟩ := Cond.laysFinal_spec hlay
      have e1 : c' = cf := by have := hi.symm.trans hf'; simp at this; exact this.1.symm
      rw [hdecl] at hown2
      rw [← e1]; exact Option.some.inj (C.2.2.2.1.symm.trans hown2)
    have h6 := u_fits hfc hkC hkind (Or.inr hlay) hi (hc.2.2.1 k hk) (hn (B + r)).1 (hn (B + r)).2
    refine W.putFinK C.1 C.2.1 C.2.2.2.1 (C.2.2.1 _ hw) hi hst hcf hin (by rw [q2]; exact h6) q1 q3 (by rw [hsl]; exact k2_hasslot (q4 k hk)) rfl rfl d fun H' g1 g2 g3 => ?_
    rw [hsl] at g1 ⊢
    refine hkk u hu H' _ ls hL (hP.set ?_ g3) (by rw [g2]; exact hz) (hS.put g2 g3 (Nat.le_add_right B a))
    refine ⟨_, hc.1, t_OB.to (V := updV (vp_V (fs.map (zv B))) k (.ref (B + r))) ⟨_, g1, q2, q3, t_set q4 hap hk _⟩ (fun j _ => ?_)⟩
    rw [show (fs.set k (.ref r)).map (zv B) = (fs.map (zv B)).set k (.ref (B + r)) from List.map_set]
    exact vp_updV_set hl _ j)
/-- a constructor's call -/
theorem z_callI {y : MethodName} {bytes : ByteArray} {maxL index n b k' mc' ms' : Nat} {As : List Value} {f : Option zH} {F : zH → Option α} (C : zOk B Z cc own (zR kk0 mc ms) nL) (hsz : Z.1.2.2.2.2.heap.size = B + n0) (rest : List Value) (hM : ∀ u, f = some u → zM Z.1.2.1 B Z.2.2.1 Z.2.2.2.1 y bytes maxL none k' mc' ms' (some (n0 + kc)) (.ref (B + b) :: As) h none u) (hn : zNm y n) (hinit : y.name = "<init>") (hk : Nat.ble (k' + 1) kk0 = true) (hx : Nat.ble (8 + (maxL + 11) + 64 * k') (64 * kk0) = true) (hrc : Nat.ble (kc + mc') mc = true) (hrs : Nat.ble (sl + ms') ms = true)
    (w1 : Cond.methodLink own index y ∈ zWs) (w2 : Cond.instanceMethod y ∈ zWs) (w4 : Cond.initialized y.cls ∈ zWs) (w5 : Cond.code y bytes maxL none ∈ zWs) (hlen : As.length = n) (hst : st = As.reverse ++ .ref (B + b) :: rest) (hrm : Nat.ble (rest.map fun v => v.category).sum 8 = true) (d : decode cc pc = .ok (.invokespecial index, 3)) (kk : ∀ h1, zJ B Z Q (F h1) (pc + 3) lv rest h1 (kc + mc', sl + ms', Z.1.2.2.2.2.heap.size + (kc + mc'))) : zJ B Z Q (f.bind F) pc lv st h (kc, sl, Z.1.2.2.2.2.heap.size + kc) :=
  z_bind (fun h1 hh u2 hu2 => by
    refine z_back (rest := rest) (mc' := mc') (ms' := ms') (v := none) (h' := h1) (a := (Value.ref (B + b) :: As).toArray) (fun H locs ls hL hP hz hS T9 hT X => ?_) ?_
    · obtain ⟨hx1, hx2, hts, hown, hK, hR, hml, hB, hN, hX, hlk, hnL⟩ := id C
      have hH : H.size = B + (n0 + kc) := z_size hsz hT hz X
      exact va_runI (own := own) (index := index) (bytes := bytes) (maxL := maxL) (n := n) (As := As) (b := B + b) ⟨hx1, hx2, hml, hown, hts⟩ (hM h1 hh) ⟨⟨rfl, rfl, by rw [hR]; exact Nat.le_of_ble_eq_true hk, by rw [hR]; exact Nat.le_of_ble_eq_true hx, pay_in hts (zgoodIn w5), List.mem_cons_self, hts _ w5, hts _ w4, hn.1, hn.len, hts _ w1⟩, hinit, hts _ w2⟩ ⟨zPc_blind, fun U hU hW => ⟨rfl, zSt_at C hP hS hU hW, fun n hn => by cases hn; rw [hU]; exact hH⟩⟩ rfl hlen hL.1 hst (lv_room (Nat.le_of_ble_eq_true hrm)) d (by rw [hR]; exact ⟨Nat.le_of_ble_eq_true hrc, Nat.le_of_ble_eq_true hrs⟩) T9 hT X
    · have := kk h1 u2 hu2
      rw [← Nat.add_assoc] at this
      exact this)
/-- a nest mate's constructor -/
theorem z_callIN {y : MethodName} {host : String} {bytes : ByteArray} {maxL index n b k' mc' ms' : Nat} {As : List Value} {f : Option zH} {F : zH → Option α} (C : zOk B Z cc own (zR kk0 mc ms) nL) (hsz : Z.1.2.2.2.2.heap.size = B + n0) (rest : List Value) (hM : ∀ u, f = some u → zM Z.1.2.1 B Z.2.2.1 Z.2.2.2.1 y bytes maxL none k' mc' ms' (some (n0 + kc)) (.ref (B + b) :: As) h none u) (hn : zNm y n) (hinit : y.name = "<init>") (hk : Nat.ble (k' + 1) kk0 = true) (hx : Nat.ble (8 + (maxL + 11) + 64 * k') (64 * kk0) = true) (hrc : Nat.ble (kc + mc') mc = true) (hrs : Nat.ble (sl + ms') ms = true)
    (w1 : va_Nw (.methodLinkNest own index y host) Z.1.2.2.2.2) (w2 : Cond.instanceMethod y ∈ zWs) (w4 : Cond.initialized y.cls ∈ zWs) (w5 : Cond.code y bytes maxL none ∈ zWs) (hlen : As.length = n) (hst : st = As.reverse ++ .ref (B + b) :: rest) (hrm : Nat.ble (rest.map fun v => v.category).sum 8 = true) (d : decode cc pc = .ok (.invokespecial index, 3)) (kk : ∀ h1, zJ B Z Q (F h1) (pc + 3) lv rest h1 (kc + mc', sl + ms', Z.1.2.2.2.2.heap.size + (kc + mc'))) : zJ B Z Q (f.bind F) pc lv st h (kc, sl, Z.1.2.2.2.2.heap.size + kc) :=
  z_bind (fun h1 hh u2 hu2 => by
    refine z_back (rest := rest) (mc' := mc') (ms' := ms') (v := none) (h' := h1) (a := (Value.ref (B + b) :: As).toArray) (fun H locs ls hL hP hz hS T9 hT X => ?_) ?_
    · obtain ⟨hx1, hx2, hts, hown, hK, hR, hml, hB, hN, hX, hlk, hnL⟩ := id C
      have hH : H.size = B + (n0 + kc) := z_size hsz hT hz X
      exact va_runIN (own := own) (host := host) (index := index) (bytes := bytes) (maxL := maxL) (n := n) (As := As) (b := B + b) ⟨hx1, hx2, hml, hown, hts⟩ (hM h1 hh) ⟨⟨⟨rfl, rfl, by rw [hR]; exact Nat.le_of_ble_eq_true hk, by rw [hR]; exact Nat.le_of_ble_eq_true hx, pay_in hts (zgoodIn w5), List.mem_cons_self⟩, hts _ w5, hts _ w4, hn.1, hn.len, va_Nw.use rfl w1⟩, hinit, hts _ w2⟩ ⟨zPc_blind, fun U hU hW => ⟨rfl, zSt_at C hP hS hU hW, fun n hn => by cases hn; rw [hU]; exact hH⟩⟩ rfl hlen hL.1 hst (lv_room (Nat.le_of_ble_eq_true hrm)) d (by rw [hR]; exact ⟨Nat.le_of_ble_eq_true hrc, Nat.le_of_ble_eq_true hrs⟩) T9 hT X
    · have := kk h1 u2 hu2
      rw [← Nat.add_assoc] at this
      exact this)
end ZNW
end
section
/-- new T[N][K]: the outer row, and the inner ones behind it -/
def zmna (h : zH) (a N K : Nat) : zH := fun q => if q = a then some (.inl (2, N, .inr (.inr (.inr (.inr (fun i => if i < N then some (a + 1 + i) else none)))))) else if a + 1 ≤ q ∧ q < a + 1 + N then some (.inl (0, K, .inl (fun _ => 0))) else h q
theorem z_mna {B : Nat} {Z : zC} {α : Type} {Q : α → State → Prop} {pc : Nat} {lv : List (Nat × Value)} {st : List Value} {h : zH} {cc : ByteArray} {own : String} {nL kk0 mc ms n0 kc sl : Nat} (C : zOk B Z cc own (zR kk0 mc ms) nL) (hsz : Z.1.2.2.2.2.heap.size = B + n0) {n k : Int32} {F : zH → Option α} (N K : Nat) {index : Nat} (hover : zAOA Z.1.2.2.2.2) (w : Cond.classLink own index "[[I" ∈ zWs) (w2 : Cond.arrayClass .int ∈ zWs) (hn : ¬ n < 0) (hk : ¬ k < 0) (hN : n.toNatClampNeg = N) (hK : k.toNatClampNeg = K) (hb1 : Nat.ble (N * 4) 536870912 = true) (hb2 : Nat.ble (K * 4) 536870912 = true) (hb3 : Nat.ble K 536870912 = true) (hc : Nat.ble (kc + (1 + N)) mc = true) (hs : Nat.ble (sl + (N + N * K)) ms = true) (d : decode cc pc = .ok (.multianewarray index 2, 4)) (kk : ∀ h1, zJ B Z Q (F h1) (pc + 4) lv (.ref (B + (n0 + kc)) :: st) h1 (kc + (1 + N), sl + (N + N * K), Z.1.2.2.2.2.heap.size + (kc + (1 + N)))) : zJ B Z Q (zlet (zmna h (n0 + kc) N K) F) pc lv (.int k :: .int n :: st) h (kc, sl, Z.1.2.2.2.2.heap.size + kc) := by
  sorry
end
section
/-! METHODS WITH A TABLE: a call that may throw, caught here -/
def zMw (l : Launch) (B : Nat) (D : va_G) (cA : Nat → ClassId) (y : MethodName) (cc : ByteArray) (maxL : Nat) (ret : Option FieldType) (hh : List (Nat × Nat × Nat × Nat)) (k : Nat) (av : List Value) (h : zH) (v : Option Value) (h' : zH) : Prop :=
  Met l y (Cond.codeWith y cc maxL ret hh :: zWs) (zR k 1 6) (zPc B D cA h none av) (zQc B D cA v h' 0) 1 6 (fun q => B ≤ q)
def zEndw (B : Nat) (Z : zC) (u : Int32 × zH) : State → Prop := MQ Z.2.1.2.2.1 (zQc B Z.2.2.1 Z.2.2.2.1 (some (.int u.1)) u.2 0) Z.2.1.2.1 Z.1.2.2.2.2 1 6 (fun q => B ≤ q)
theorem z_metw {l : Launch} {B : Nat} {D : va_G} {cA : Nat → ClassId} {y : MethodName} {cc : ByteArray} {maxL : Nat} {ret : Option FieldType} {hh : List (Nat × Nat × Nat × Nat)} {k : Nat} {av : List Value} {h : zH} {o : Option (Int32 × zH)} {own : String} (hown0 : y.cls = own) (hy : plainName y.cls = true) (hn : Nat.ble (lg_sl av).length maxL = true)
    (walk : ∀ Z : zC, zOk B Z cc own (zR k 1 6) maxL → Z.2.1.2.2.2.1.sig.returnType = ret → Z.2.1.2.2.2.2.exceptionTable.toList = tableOf hh → Z.1.2.1 = l → zJ B Z (zEndw B Z) o 0 (lv_args 0 av) [] h (z00 Z)) :
    ∀ u, o = some u → zMw l B D cA y cc maxL ret hh k av h (some (.int u.1)) u.2 := by
  intro u hu
  subst hown0
  unfold zMw Met
  refine MetFree.of_bodyS (code := cc) (maxLocals := maxL) (ret := ret) hy ?_ ?_
  · intro args s m h hn
    obtain ⟨m9, meth, c, hn9, h1, h2, h3, h4, -, h5, h6, -⟩ := Cond.codeWith_spec (atoms_spec (ws := Cond.codeWith y cc maxL ret hh :: zWs) h _ List.mem_cons_self)
    cases hn.symm.trans hn9
    exact ⟨meth, c, h1, h2, h3, h4, h5, h6⟩
  · intro p e s m args below meth c s₁ Bd hml hv _
    have hh0 : s₁.heap = s.heap := by rw [Bd.state]; rfl
    obtain ⟨rfl, ⟨hP, hK, hB, hN, hX⟩, -⟩ := hv
    have hts := atoms_spec (ws := Cond.codeWith y cc maxL ret hh :: zWs) Bd.pre
    have hown : s.vm.findClass y.cls = some m.cls := findClass_of_methodNamed Bd.named
    have W1 := walk ((p, l, e, zR k 1 6, s), (m, av.toArray, below, meth, c), (D, cA, maxL)) ⟨Bd.exec, Bd.bytes, fun w hw => hts w (List.mem_cons_of_mem _ hw), hown, hK, rfl, hml, hB, hN, hX, Bd.notSynchronized, rfl⟩ Bd.returns (vx_table (x := y) Bd (hts _ List.mem_cons_self)) rfl u hu
    have hll := lv_entry av (n := maxL) (Nat.le_of_ble_eq_true hn)
    have W2 : W p l e (zR k 1 6) s m av.toArray below meth c s.heap [] 0 0 (zEndw B ((p, l, e, zR k 1 6, s), (m, av.toArray, below, meth, c), (D, cA, maxL)) u) (entryFrame m av.toArray maxL) := by
      rw [lg_entry_eq]
      exact W1 s.heap [] _ hll hP (Nat.le_refl _) va_S.rf
    obtain ⟨t, a1, o, b1, b2, b3⟩ := W2 s₁ hh0 (Stand.of_body Bd)
    exact ⟨t, o, a1, b1, b2, ⟨b3.1, b3.2⟩⟩
/-- what is known where a call has thrown exception e -/
def zXJ (B : Nat) (Z : zC) {α : Type} (Q : α → State → Prop) (o : Option α) (pc : Nat) (lv : List (Nat × Value)) (st : List Value) (h : zH) (z : Nat × Nat × Nat) (e : Nat) : Prop := ∀ u, o = some u → ∀ (H : Heap) (locs : List Loc) (ls : Array Slot) (ce : Cell) (q : Addr), lv_has ls Z.2.2.2.2 lv → zP B Z.2.2.1 Z.2.2.2.1 h H → z.2.2 ≤ H.size → va_S (fun q => B ≤ q) Z.1.2.2.2.2.heap H locs → H[q]? = some ce → ce.vm = .none → Z.1.2.2.2.2.vm.findClass (zExN e) = some ce.cls →
    vx_W Z.1.1 Z.1.2.1 Z.1.2.2.1 Z.1.2.2.2.1 Z.1.2.2.2.2 Z.2.1.1 Z.2.1.2.1 Z.2.1.2.2.1 Z.2.1.2.2.2.1 Z.2.1.2.2.2.2 H locs z.1 z.2.1 (Q u) (F0 Z.2.1.1 pc ls st) q
def zcs {α : Type} (u : zO2) (N : Int32 → zH → Option α) (X : Nat → zH → Option α) : Option α := match u.1 with
  | .inr r => N r u.2
  | .inl e => X e u.2
/-- what a handler asks of the exceptions that pass the entries ahead of it -/
def zPass (e : Nat) (U : State) (own : String) (pre : List ExceptionTableEntry) : Prop := ∀ x ∈ pre, x.catchType ≠ 0 ∧ ∃ d : Nat, Cond.classLink own x.catchType (zExN d) ∈ zWs ∧ va_Nc (zExN e) (zExN d) U
theorem zPass_0 {e : Nat} {U : State} {own : String} : zPass e U own [] := fun _ h => nomatch h
theorem zPass_c {e : Nat} {U : State} {own : String} {x : ExceptionTableEntry} {pre : List ExceptionTableEntry} {ct : Nat} (hct : x.catchType = ct) (h0 : Nat.ble 1 ct = true) (d : Nat) (w : Cond.classLink own ct (zExN d) ∈ zWs) (hn : va_Nc (zExN e) (zExN d) U) (h : zPass e U own pre) : zPass e U own (x :: pre) := fun y hy => (List.mem_cons.mp hy).elim (fun q => by subst hct; rw [q]; exact ⟨fun q0 => (by rw [q0] at h0; exact absurd h0 (by decide)), d, w, hn⟩) (h y)
section ZXW
variable {B : Nat} {Z : zC} {α : Type} {Q : α → State → Prop} {o o1 o2 : Option α} {pc : Nat} {lv : List (Nat × Value)} {st rest : List Value} {h : zH} {cc : ByteArray} {own : String} {nL k e : Nat} {z : Nat × Nat × Nat} {R : Room}
theorem z_wret (C : zOk B Z cc own R nL) (hr : Z.2.1.2.2.2.1.sig.returnType = some .int) {x : Int32} (d : decode cc pc = .ok (.ireturn, 1)) : zJ B Z (zEndw B Z) (some (x, h)) pc lv [.int x] h (1, 6, Z.1.2.2.2.2.heap.size) := by
  intro u' eu H locs ls hL hP hz hS
  cases eu
  exact W.iret (v := x) C.1 C.2.1 hr (fun t ht hW => ⟨rfl, by rw [ht]; exact hP, by rw [ht]; exact hz, hS.F ht⟩) hS.2.2 d C.2.2.2.2.2.2.2.2.2.2.1
theorem zX_none : zXJ B Z Q none pc lv st h z e := fun u hu => nomatch hu
theorem zX_ite {c : Prop} [Decidable c] (kt : c → zXJ B Z Q o1 pc lv st h z e) (kf : ¬ c → zXJ B Z Q o2 pc lv st h z e) : zXJ B Z Q (if c then o1 else o2) pc lv st h z e := by
  by_cases hc : c
  · rw [if_pos hc]; exact kt hc
  · rw [if_neg hc]; exact kf hc
theorem zX_catch (C : zOk B Z cc own R nL) {hh : List (Nat × Nat × Nat × Nat)} (htab : Z.2.1.2.2.2.2.exceptionTable.toList = tableOf hh) (pre : List ExceptionTableEntry) (x : ExceptionTableEntry) (suf : List ExceptionTableEntry) (hsplit : tableOf hh = pre ++ x :: suf) (hpass : zPass e Z.1.2.2.2.2 own pre) (hx : covers x pc = true) {ct hp : Nat} (hct : x.catchType = ct) (hhp : x.handlerPc = hp) (h0 : Nat.ble 1 ct = true) (w : Cond.classLink own ct (zExN e) ∈ zWs) (hcast : va_Nw (.castable (zExN e) (zExN e)) Z.1.2.2.2.2) (kk : ∀ q : Nat, zJ B Z Q o hp lv [.ref q] h z) : zXJ B Z Q o pc lv rest h z e := by
  intro u hu H locs ls ce q hL hP hz hS hq hv hcl
  subst hct
  subst hhp
  refine vx_catch C.2.2.2.1 pre x suf (htab.trans hsplit) (fun y hy => ?_) hx (fun q0 => (by rw [q0] at h0; exact absurd h0 (by decide))) (C.2.2.1 _ w) (va_Nw.use rfl hcast) hq hv hcl (kk q u hu H locs ls hL hP hz hS)
  obtain ⟨a1, d, a2, a3⟩ := hpass y hy
  exact Or.inr ⟨a1, zExN d, C.2.2.1 _ a2, a3⟩
theorem z_callX {y : MethodName} {bytes : ByteArray} {maxL index n b ci N k' : Nat} {ret : Option FieldType} {Cn : String} {T : u_T} {ty : Nat → FieldType} {As : List Value} {f : Option zO2} {F : Int32 → zH → Option α} {G : Nat → zH → Option α} (C : zOk B Z cc own (zR k 1 6) nL) (rest : List Value) (hM : ∀ u, f = some u → zMx Z.1.2.1 B Z.2.2.1 Z.2.2.2.1 y bytes maxL ret k' (.ref (B + b) :: As) h u) (hn : zNm y n) (hk : Nat.ble (k' + 1) k = true) (hx : Nat.ble (8 + (maxL + 11) + 64 * k') (64 * k) = true)
    (hci : zCl ci Cn T N ty) (hy : Cn = y.cls) (w1 : Cond.methodLink own index y ∈ zWs) (w2 : Cond.instanceMethod y ∈ zWs) (w3 : Cond.selects y.cls y y ∈ zWs) (w4 : Cond.initialized y.cls ∈ zWs) (w5 : Cond.code y bytes maxL ret ∈ zWs) (hlen : As.length = n) (hst : st = As.reverse ++ .ref (B + b) :: rest) (hrm : Nat.ble (rest.map fun v => v.category).sum 8 = true) (d : decode cc pc = .ok (.invokevirtual index, 3))
    (kn : ∀ r h1, zJ B Z Q (F r h1) (pc + 3) lv (.int r :: rest) h1 (1, 6, Z.1.2.2.2.2.heap.size)) (kx : ∀ e h1, zXJ B Z Q (G e h1) pc lv rest h1 (1, 6, Z.1.2.2.2.2.heap.size) e) : zJ B Z Q (zrc h b ci (f.bind (fun u => zcs u F G))) pc lv st h (z00 Z) :=
  z_rc (fun fs hrc => z_bind (fun u hu u2 hu2 => by
    intro H locs ls hL hP hz hS T9 hT X
    obtain ⟨hx1, hx2, hts, hown, hK, hR, hml, hB, hN, hX, hlk, hnL⟩ := id C
    subst hy
    have run : vx_Run Z.1.1 Z.1.2.1 Z.1.2.2.1 Z.1.2.2.2.1 Z.1.2.2.2.2 Z.2.1.1 Z.2.1.2.1 Z.2.1.2.2.1 Z.2.1.2.2.2.1 Z.2.1.2.2.2.2 H locs 0 0 1 6 (F0 Z.2.1.1 pc ls st) rest (zQx B Z.2.2.1 Z.2.2.2.1 u (Value.ref (B + b) :: As).toArray) (zXx B Z.2.2.1 Z.2.2.2.1 u) (fun q => B ≤ q) :=
      vx_runV (own := own) (C := y.cls) (index := index) (bytes := bytes) (maxL := maxL) (ret := ret) (n := n) (As := As) (b := B + b) ⟨hx1, hx2, hml, hown, hts⟩ (hM u hu) ⟨⟨rfl, rfl, by rw [hR]; exact Nat.le_of_ble_eq_true hk, by rw [hR]; exact Nat.le_of_ble_eq_true hx, pay_in hts (zgoodIn w5), List.mem_cons_self, hts _ w5, hts _ w4, hn.1, hn.len, hts _ w1⟩, hts _ w2, hts _ w3⟩ ⟨zPc_blind, va_recv hK (hP.one (zO_of hrc)) (ci := ci) (q0 := 0) hci.1 rfl, fun U hU hW => ⟨rfl, zSt_at C hP hS hU hW, fun n hn => nomatch hn⟩⟩ rfl hlen hL.1 hst (lv_room (Nat.le_of_ble_eq_true hrm)) d (by rw [hR]; exact ⟨Nat.le_refl 1, Nat.le_refl 6⟩)
    rcases run T9 hT X with ⟨v, st₀, t, T', L, h0, X', hF, e1, e2, ⟨r, hr1, hv, hp, hf⟩, stp⟩ | ⟨q, st₀, t, T', L, E, ce, h0, X', hF, e1, e2, ⟨e9, he1, hE, hp, hf⟩, hce, hcv, hcl, stp⟩
    · cases hv
      obtain ⟨f1, f2⟩ := hf
      rw [h0] at f1 f2
      have hu3 : F r u.2 = some u2 := by
        have := hu2
        unfold zcs at this
        rw [hr1] at this
        exact this
      obtain ⟨t2, a1, b1⟩ := kn r u.2 u2 hu3 T'.heap (locs ++ L) ls hL (by rw [e1]; exact hp) (by rw [e1]; exact Nat.le_trans hz f1)
        ⟨Nat.le_trans hS.1 (by rw [e1]; exact f1), fun q h1 h2 => by rw [e1, f2 q (Nat.lt_of_lt_of_le h1 hS.1) h2]; exact hS.2.1 q h1 h2, fun q hq => by
          rcases List.mem_append.mp hq with h | h
          · exact hS.2.2 q h
          · exact hF q h⟩ T' rfl X'
      exact ⟨t2, stp t2 a1, b1⟩
    · subst hE
      obtain ⟨f1, f2⟩ := hf
      rw [h0] at f1 f2
      have hu3 : G e9 u.2 = some u2 := by
        have := hu2
        unfold zcs at this
        rw [he1] at this
        exact this
      obtain ⟨t2, a1, b1⟩ := kx e9 u.2 u2 hu3 T'.heap (locs ++ L) ls ce q hL (by rw [e1]; exact hp) (by rw [e1]; exact Nat.le_trans hz f1)
        ⟨Nat.le_trans hS.1 (by rw [e1]; exact f1), fun q h1 h2 => by rw [e1, f2 q (Nat.lt_of_lt_of_le h1 hS.1) h2]; exact hS.2.1 q h1 h2, fun q hq => by
          rcases List.mem_append.mp hq with h | h
          · exact hS.2.2 q h
          · exact hF q h⟩ (by rw [e1]; exact hce) hcv hcl T' rfl X'
      exact ⟨t2, stp.trans a1, b1⟩))
end ZXW
end
section
/-! THE LAW's OWN ROWS -/
abbrev zl (Z : zC) (N : Nat) : Nat × Nat × Nat := (616000 - N, 7247000 - 6 * N, Z.1.2.2.2.2.heap.size)
abbrev zlb (Z : zC) (N : Nat) : Nat × Nat × Nat := (616000 - N + 1, 7247000 - 6 * N + 6, Z.1.2.2.2.2.heap.size)
def zsx (L : Nat) (xs : Nat → Int32) (i : Int32) : Option Int32 := if i < 0 ∨ L ≤ i.toNatClampNeg then none else some (xs i.toNatClampNeg)
section ZLW
variable {B : Nat} {Z : zC} {α : Type} {Q : α → State → Prop} {o : Option α} {pc : Nat} {lv : List (Nat × Value)} {st : List Value} {h : zH} {cc : ByteArray} {own : String} {nL : Nat} {z : Nat × Nat × Nat} {R : Room} {b L : Nat} {xs : Nat → Int32}
theorem z_widen {z' : Nat × Nat × Nat} (h1 : z.1 ≤ z'.1) (h2 : z.2.1 ≤ z'.2.1) (h3 : z'.2.2 ≤ z.2.2) (k : zJ B Z Q o pc lv st h z') : zJ B Z Q o pc lv st h z := fun u hu H locs ls hL hP hz hS => W.widen h1 h2 (k u hu H locs ls hL hP (Nat.le_trans h3 hz) hS)
theorem zl_A {N : Nat} : (zl Z N).1 ≤ 616119 ∧ (zl Z N).2.1 ≤ 7247748 := ⟨by show 616000 - N ≤ 616119; omega, by show 7247000 - 6 * N ≤ 7247748; omega⟩
theorem zl_B {N : Nat} : (zlb Z N).1 ≤ 616119 ∧ (zlb Z N).2.1 ≤ 7247748 := ⟨by show 616000 - N + 1 ≤ 616119; omega, by show 7247000 - 6 * N + 6 ≤ 7247748; omega⟩
theorem z_AC {N : Nat} (k : zJ B Z Q o pc lv st h (zl Z N)) : zJ B Z Q o pc lv st h (zl Z (N + 1)) := z_widen (z' := zl Z N) (by show 616000 - (N + 1) ≤ 616000 - N; omega) (by show 7247000 - 6 * (N + 1) ≤ 7247000 - 6 * N; omega) (Nat.le_refl _) k
theorem z_BC {N : Nat} (hN : N + 1 ≤ 1000) (k : zJ B Z Q o pc lv st h (zl Z N)) : zJ B Z Q o pc lv st h (zlb Z (N + 1)) := z_widen (z' := zl Z N) (by show 616000 - (N + 1) + 1 ≤ 616000 - N; omega) (by show 7247000 - 6 * (N + 1) + 6 ≤ 7247000 - 6 * N; omega) (Nat.le_refl _) k
theorem z_slen (C : zOk B Z cc own R nL) (hX : va_X b L xs Z.1.2.2.2.2 Z.1.2.2.2.2.heap) (hbl : b < Z.1.2.2.2.2.heap.size) (hbB : ¬ B ≤ b) (d : decode cc pc = .ok (.arraylength, 1)) (k : zJ B Z Q o (pc + 1) lv (.int (Int32.ofNat L) :: st) h z) : zJ B Z Q o pc lv (.ref b :: st) h z := fun u hu H locs ls hL hP hz hS => va_slen C.1 C.2.1 hX hbl hbB hS d (k u hu H locs ls hL hP hz hS)
theorem z_sld (C : zOk B Z cc own R nL) (hX : va_X b L xs Z.1.2.2.2.2 Z.1.2.2.2.2.heap) (hbl : b < Z.1.2.2.2.2.heap.size) (hbB : ¬ B ≤ b) {i : Int32} {F : Int32 → Option α} (d : decode cc pc = .ok (.iaload, 1)) (k : ∀ v, zJ B Z Q (F v) (pc + 1) lv (.int v :: st) h z) : zJ B Z Q ((zsx L xs i).bind F) pc lv (.int i :: .ref b :: st) h z := by
  unfold zsx
  by_cases hc : i < 0 ∨ L ≤ i.toNatClampNeg
  · rw [if_pos hc]; exact z_none
  · rw [if_neg hc]
    exact fun u hu H locs ls hL hP hz hS => va_sld C.1 C.2.1 hX hbl hbB hS hc d (k _ u hu H locs ls hL hP hz hS)
theorem z_callW {y : MethodName} {bytes : ByteArray} {maxL index n k' k mc ms : Nat} {ret : Option FieldType} {hh : List (Nat × Nat × Nat × Nat)} {As : List Value} {f : Option (Int32 × zH)} {F : Int32 → zH → Option α} (C : zOk B Z cc own (zR k mc ms) nL) (rest : List Value) (hM : ∀ u, f = some u → zMw Z.1.2.1 B Z.2.2.1 Z.2.2.2.1 y bytes maxL ret hh k' As h (some (.int u.1)) u.2) (hn : zNm y n) (hk : Nat.ble (k' + 1) k = true) (hx : Nat.ble (8 + (maxL + 11) + 64 * k') (64 * k) = true) (hroom : z.1 + 1 ≤ mc ∧ z.2.1 + 6 ≤ ms)
    (w1 : Cond.methodLink own index y ∈ zWs) (w2 : Cond.static y ∈ zWs) (w4 : Cond.initialized y.cls ∈ zWs) (w5 : Cond.codeWith y bytes maxL ret hh ∈ zWs) (hlen : As.length = n) (hst : st = As.reverse ++ rest) (hrm : Nat.ble (rest.map fun v => v.category).sum 8 = true) (d : decode cc pc = .ok (.invokestatic index, 3)) (kk : ∀ r h1, zJ B Z Q (F r h1) (pc + 3) lv (.int r :: rest) h1 (z.1 + 1, z.2.1 + 6, z.2.2)) : zJ B Z Q (zb2 f F) pc lv st h z :=
  z_b2 (fun r h1 hu u2 hu2 => by
    intro H locs ls hL hP hz hS T9 hT X
    obtain ⟨hx1, hx2, hts, hown, hK, hR, hml, hB, hN, hX, hlk, hnL⟩ := id C
    have hgi : ∀ w ∈ (Cond.codeWith y bytes maxL ret hh :: zWs), w ∈ zWs ∧ ((w.onTables && w.keeps) = true ∨ ∃ ty, w = .arrayClass ty) := fun w hw => (List.mem_cons.mp hw).elim (fun e => by rw [e]; exact ⟨w5, zgood _ w5⟩) (fun e => ⟨e, zgood w e⟩)
    have run : va_Run Z.1.1 Z.1.2.1 Z.1.2.2.1 Z.1.2.2.2.1 Z.1.2.2.2.2 Z.2.1.1 Z.2.1.2.1 Z.2.1.2.2.1 Z.2.1.2.2.2.1 Z.2.1.2.2.2.2 H locs z.1 z.2.1 1 6 (F0 Z.2.1.1 pc ls st) rest (zQc B Z.2.2.1 Z.2.2.2.1 (some (.int r)) h1 0 As.toArray) (fun q => B ≤ q) :=
      vx_runSW (own := own) (index := index) (bytes := bytes) (maxL := maxL) (ret := ret) (hh := hh) (n := n) (As := As) ⟨hx1, hx2, hml, hown, hts⟩ (hM (r, h1) hu) ⟨⟨rfl, rfl, by rw [hR]; exact Nat.le_of_ble_eq_true hk, by rw [hR]; exact Nat.le_of_ble_eq_true hx, pay_in hts hgi, List.mem_cons_self⟩, hts _ w5, hts _ w4, hn.1, hn.len, hts _ w1, hts _ w2⟩ ⟨zPc_blind, fun U hU hW => ⟨rfl, zSt_at C hP hS hU hW, fun n hn => nomatch hn⟩⟩ rfl hlen hL.1 hst (lv_room (Nat.le_of_ble_eq_true hrm)) d (by rw [hR]; exact hroom)
    obtain ⟨w, st₀, t, T', L9, h0, X', hF, e1, e2, ⟨hv, hp, hsz, hf⟩, stp⟩ := run T9 hT X
    cases hv
    obtain ⟨f1, f2⟩ := hf
    rw [h0] at f1 f2
    obtain ⟨t2, a1, b1⟩ := kk r h1 u2 hu2 T'.heap (locs ++ L9) ls hL (by rw [e1]; exact hp) (by rw [e1]; exact Nat.le_trans hz f1)
      ⟨Nat.le_trans hS.1 (by rw [e1]; exact f1), fun q h1 h2 => by rw [e1, f2 q (Nat.lt_of_lt_of_le h1 hS.1) h2]; exact hS.2.1 q h1 h2, fun q hq => by
        rcases List.mem_append.mp hq with h | h
        · exact hS.2.2 q h
        · exact hF q h⟩ T' rfl X'
    exact ⟨t2, stp t2 a1, b1⟩)
end ZLW
end
