section
-- ===== PART A: goes FIRST, ahead of the names: the tables' words, and 'selects' of the private methods out of them =====
/-- a private method of a class that the tables say can be made, by its rows of tables_1 -/
def lw_okq (q : MethodName × Nat) : Prop := (q.1.cls ≠ "java/lang/invoke/MethodHandle" ∧ q.1.cls ≠ "java/lang/invoke/VarHandle") ∧ Cond.instantiable q.1.cls q.2 ∈ tables_1 ∧ Cond.privateMethod q.1 ∈ tables_1 ∧ Cond.instanceMethod q.1 ∈ tables_1
theorem lw_p0 : lw_okq (⟨"NetJoins$Joins", "scatterRow", "(I)V"⟩, 1) := ⟨⟨by decide +kernel, by decide +kernel⟩, List.mem_of_getElem? (i := 66) (by decide +kernel), List.mem_of_getElem? (i := 74) (by decide +kernel), List.mem_of_getElem? (i := 75) (by decide +kernel)⟩
theorem lw_p1 : lw_okq (⟨"NetJoins", "listRemarks", "()V"⟩, 18) := ⟨⟨by decide +kernel, by decide +kernel⟩, List.mem_of_getElem? (i := 32) (by decide +kernel), List.mem_of_getElem? (i := 184) (by decide +kernel), List.mem_of_getElem? (i := 185) (by decide +kernel)⟩
theorem lw_p2 : lw_okq (⟨"NetJoins", "listNames", "()V"⟩, 18) := ⟨⟨by decide +kernel, by decide +kernel⟩, List.mem_of_getElem? (i := 32) (by decide +kernel), List.mem_of_getElem? (i := 188) (by decide +kernel), List.mem_of_getElem? (i := 189) (by decide +kernel)⟩
theorem lw_p3 : lw_okq (⟨"NetJoins", "netOfLabel", "(LNetJoins$Spot;LNetJoins$Sheet;)I"⟩, 18) := ⟨⟨by decide +kernel, by decide +kernel⟩, List.mem_of_getElem? (i := 32) (by decide +kernel), List.mem_of_getElem? (i := 213) (by decide +kernel), List.mem_of_getElem? (i := 214) (by decide +kernel)⟩
theorem lw_p4 : lw_okq (⟨"NetJoins$Joins", "has", "(I)Z"⟩, 1) := ⟨⟨by decide +kernel, by decide +kernel⟩, List.mem_of_getElem? (i := 66) (by decide +kernel), List.mem_of_getElem? (i := 228) (by decide +kernel), List.mem_of_getElem? (i := 229) (by decide +kernel)⟩
theorem lw_p5 : lw_okq (⟨"NetJoins$Joins", "climb", "(I)I"⟩, 1) := ⟨⟨by decide +kernel, by decide +kernel⟩, List.mem_of_getElem? (i := 66) (by decide +kernel), List.mem_of_getElem? (i := 232) (by decide +kernel), List.mem_of_getElem? (i := 233) (by decide +kernel)⟩
theorem lw_p6 : lw_okq (⟨"NetJoins", "remarkOtherNames", "(I)V"⟩, 18) := ⟨⟨by decide +kernel, by decide +kernel⟩, List.mem_of_getElem? (i := 32) (by decide +kernel), List.mem_of_getElem? (i := 237) (by decide +kernel), List.mem_of_getElem? (i := 238) (by decide +kernel)⟩
theorem lw_p7 : lw_okq (⟨"NetJoins", "bestName", "(I)I"⟩, 18) := ⟨⟨by decide +kernel, by decide +kernel⟩, List.mem_of_getElem? (i := 32) (by decide +kernel), List.mem_of_getElem? (i := 241) (by decide +kernel), List.mem_of_getElem? (i := 242) (by decide +kernel)⟩
theorem lw_p8 : lw_okq (⟨"NetJoins", "remark", "(I)V"⟩, 18) := ⟨⟨by decide +kernel, by decide +kernel⟩, List.mem_of_getElem? (i := 32) (by decide +kernel), List.mem_of_getElem? (i := 245) (by decide +kernel), List.mem_of_getElem? (i := 246) (by decide +kernel)⟩
theorem lw_p9 : lw_okq (⟨"NetJoins", "isLoose", "(LNetJoins$Spot;)Z"⟩, 18) := ⟨⟨by decide +kernel, by decide +kernel⟩, List.mem_of_getElem? (i := 32) (by decide +kernel), List.mem_of_getElem? (i := 249) (by decide +kernel), List.mem_of_getElem? (i := 250) (by decide +kernel)⟩
theorem lw_p10 : lw_okq (⟨"NetJoins", "isJoinedToAnother", "(I)Z"⟩, 18) := ⟨⟨by decide +kernel, by decide +kernel⟩, List.mem_of_getElem? (i := 32) (by decide +kernel), List.mem_of_getElem? (i := 276) (by decide +kernel), List.mem_of_getElem? (i := 277) (by decide +kernel)⟩
theorem lw_p11 : lw_okq (⟨"NetJoins", "copiesOf", "(I)I"⟩, 18) := ⟨⟨by decide +kernel, by decide +kernel⟩, List.mem_of_getElem? (i := 32) (by decide +kernel), List.mem_of_getElem? (i := 280) (by decide +kernel), List.mem_of_getElem? (i := 281) (by decide +kernel)⟩
theorem lw_p12 : lw_okq (⟨"NetJoins", "joinAnew", "()V"⟩, 18) := ⟨⟨by decide +kernel, by decide +kernel⟩, List.mem_of_getElem? (i := 32) (by decide +kernel), List.mem_of_getElem? (i := 299) (by decide +kernel), List.mem_of_getElem? (i := 300) (by decide +kernel)⟩
theorem lw_p13 : lw_okq (⟨"NetJoins", "touchAnew", "()V"⟩, 18) := ⟨⟨by decide +kernel, by decide +kernel⟩, List.mem_of_getElem? (i := 32) (by decide +kernel), List.mem_of_getElem? (i := 303) (by decide +kernel), List.mem_of_getElem? (i := 304) (by decide +kernel)⟩
theorem lw_p14 : lw_okq (⟨"NetJoins", "joinEnds", "(LNetJoins$Wire;)V"⟩, 18) := ⟨⟨by decide +kernel, by decide +kernel⟩, List.mem_of_getElem? (i := 32) (by decide +kernel), List.mem_of_getElem? (i := 311) (by decide +kernel), List.mem_of_getElem? (i := 312) (by decide +kernel)⟩
theorem lw_p15 : lw_okq (⟨"NetJoins", "joinJunction", "(LNetJoins$Spot;)V"⟩, 18) := ⟨⟨by decide +kernel, by decide +kernel⟩, List.mem_of_getElem? (i := 32) (by decide +kernel), List.mem_of_getElem? (i := 337) (by decide +kernel), List.mem_of_getElem? (i := 338) (by decide +kernel)⟩
def lw_privs_1 : List (MethodName × Nat) := [(⟨"NetJoins$Joins", "scatterRow", "(I)V"⟩, 1), (⟨"NetJoins", "listRemarks", "()V"⟩, 18), (⟨"NetJoins", "listNames", "()V"⟩, 18), (⟨"NetJoins", "netOfLabel", "(LNetJoins$Spot;LNetJoins$Sheet;)I"⟩, 18), (⟨"NetJoins$Joins", "has", "(I)Z"⟩, 1), (⟨"NetJoins$Joins", "climb", "(I)I"⟩, 1), (⟨"NetJoins", "remarkOtherNames", "(I)V"⟩, 18), (⟨"NetJoins", "bestName", "(I)I"⟩, 18), (⟨"NetJoins", "remark", "(I)V"⟩, 18), (⟨"NetJoins", "isLoose", "(LNetJoins$Spot;)Z"⟩, 18), (⟨"NetJoins", "isJoinedToAnother", "(I)Z"⟩, 18), (⟨"NetJoins", "copiesOf", "(I)I"⟩, 18), (⟨"NetJoins", "joinAnew", "()V"⟩, 18), (⟨"NetJoins", "touchAnew", "()V"⟩, 18), (⟨"NetJoins", "joinEnds", "(LNetJoins$Wire;)V"⟩, 18), (⟨"NetJoins", "joinJunction", "(LNetJoins$Spot;)V"⟩, 18)]
theorem lw_r1 : ∀ q ∈ lw_privs_1, lw_okq q := List.forall_mem_cons.mpr ⟨lw_p0, List.forall_mem_cons.mpr ⟨lw_p1, List.forall_mem_cons.mpr ⟨lw_p2, List.forall_mem_cons.mpr ⟨lw_p3, List.forall_mem_cons.mpr ⟨lw_p4, List.forall_mem_cons.mpr ⟨lw_p5, List.forall_mem_cons.mpr ⟨lw_p6, List.forall_mem_cons.mpr ⟨lw_p7, List.forall_mem_cons.mpr ⟨lw_p8, List.forall_mem_cons.mpr ⟨lw_p9, List.forall_mem_cons.mpr ⟨lw_p10, List.forall_mem_cons.mpr ⟨lw_p11, List.forall_mem_cons.mpr ⟨lw_p12, List.forall_mem_cons.mpr ⟨lw_p13, List.forall_mem_cons.mpr ⟨lw_p14, List.forall_mem_cons.mpr ⟨lw_p15, fun _ h => absurd h List.not_mem_nil⟩⟩⟩⟩⟩⟩⟩⟩⟩⟩⟩⟩⟩⟩⟩⟩
theorem lw_p16 : lw_okq (⟨"NetJoins", "joinSpot", "(LNetJoins$Spot;)V"⟩, 18) := ⟨⟨by decide +kernel, by decide +kernel⟩, List.mem_of_getElem? (i := 32) (by decide +kernel), List.mem_of_getElem? (i := 341) (by decide +kernel), List.mem_of_getElem? (i := 342) (by decide +kernel)⟩
theorem lw_p17 : lw_okq (⟨"NetJoins", "joinSamePlace", "(LNetJoins$Spot;Ljava/util/ArrayList;)V"⟩, 18) := ⟨⟨by decide +kernel, by decide +kernel⟩, List.mem_of_getElem? (i := 32) (by decide +kernel), List.mem_of_getElem? (i := 345) (by decide +kernel), List.mem_of_getElem? (i := 346) (by decide +kernel)⟩
theorem lw_p18 : lw_okq (⟨"NetJoins", "spreadOn", "(LNetJoins$Sheet;)V"⟩, 18) := ⟨⟨by decide +kernel, by decide +kernel⟩, List.mem_of_getElem? (i := 32) (by decide +kernel), List.mem_of_getElem? (i := 349) (by decide +kernel), List.mem_of_getElem? (i := 350) (by decide +kernel)⟩
theorem lw_p19 : lw_okq (⟨"NetJoins", "spreadSpots", "(LNetJoins$Sheet;Ljava/util/ArrayList;)V"⟩, 18) := ⟨⟨by decide +kernel, by decide +kernel⟩, List.mem_of_getElem? (i := 32) (by decide +kernel), List.mem_of_getElem? (i := 353) (by decide +kernel), List.mem_of_getElem? (i := 354) (by decide +kernel)⟩
theorem lw_p20 : lw_okq (⟨"NetJoins", "nodeOn", "(LNetJoins$Sheet;I)I"⟩, 18) := ⟨⟨by decide +kernel, by decide +kernel⟩, List.mem_of_getElem? (i := 32) (by decide +kernel), List.mem_of_getElem? (i := 357) (by decide +kernel), List.mem_of_getElem? (i := 358) (by decide +kernel)⟩
theorem lw_p21 : lw_okq (⟨"NetJoins", "joinBusesOn", "(LNetJoins$Sheet;)V"⟩, 18) := ⟨⟨by decide +kernel, by decide +kernel⟩, List.mem_of_getElem? (i := 32) (by decide +kernel), List.mem_of_getElem? (i := 361) (by decide +kernel), List.mem_of_getElem? (i := 362) (by decide +kernel)⟩
theorem lw_p22 : lw_okq (⟨"NetJoins", "joinBus", "(II)V"⟩, 18) := ⟨⟨by decide +kernel, by decide +kernel⟩, List.mem_of_getElem? (i := 32) (by decide +kernel), List.mem_of_getElem? (i := 366) (by decide +kernel), List.mem_of_getElem? (i := 367) (by decide +kernel)⟩
theorem lw_p23 : lw_okq (⟨"NetJoins", "joinMembers", "(LNetJoins$Bus;ILNetJoins$Bus;I)V"⟩, 18) := ⟨⟨by decide +kernel, by decide +kernel⟩, List.mem_of_getElem? (i := 32) (by decide +kernel), List.mem_of_getElem? (i := 370) (by decide +kernel), List.mem_of_getElem? (i := 371) (by decide +kernel)⟩
theorem lw_p24 : lw_okq (⟨"NetJoins", "longestBefore", "(I)LNetJoins$Bus;"⟩, 18) := ⟨⟨by decide +kernel, by decide +kernel⟩, List.mem_of_getElem? (i := 32) (by decide +kernel), List.mem_of_getElem? (i := 386) (by decide +kernel), List.mem_of_getElem? (i := 387) (by decide +kernel)⟩
theorem lw_p25 : lw_okq (⟨"NetJoins", "countNets", "()V"⟩, 18) := ⟨⟨by decide +kernel, by decide +kernel⟩, List.mem_of_getElem? (i := 32) (by decide +kernel), List.mem_of_getElem? (i := 391) (by decide +kernel), List.mem_of_getElem? (i := 392) (by decide +kernel)⟩
theorem lw_p26 : lw_okq (⟨"NetJoins", "needSheet", "(I)V"⟩, 18) := ⟨⟨by decide +kernel, by decide +kernel⟩, List.mem_of_getElem? (i := 32) (by decide +kernel), List.mem_of_getElem? (i := 425) (by decide +kernel), List.mem_of_getElem? (i := 426) (by decide +kernel)⟩
theorem lw_p27 : lw_okq (⟨"java/lang/Throwable", "fillInStackTrace", "(I)Ljava/lang/Throwable;"⟩, 6) := ⟨⟨by decide +kernel, by decide +kernel⟩, List.mem_of_getElem? (i := 467) (by decide +kernel), List.mem_of_getElem? (i := 465) (by decide +kernel), List.mem_of_getElem? (i := 466) (by decide +kernel)⟩
theorem lw_p28 : lw_okq (⟨"NetJoins", "needDrawn", "(I)V"⟩, 18) := ⟨⟨by decide +kernel, by decide +kernel⟩, List.mem_of_getElem? (i := 32) (by decide +kernel), List.mem_of_getElem? (i := 497) (by decide +kernel), List.mem_of_getElem? (i := 498) (by decide +kernel)⟩
theorem lw_p29 : lw_okq (⟨"NetJoins", "repeatOf", "(III)LNetJoins$Sheet;"⟩, 18) := ⟨⟨by decide +kernel, by decide +kernel⟩, List.mem_of_getElem? (i := 32) (by decide +kernel), List.mem_of_getElem? (i := 543) (by decide +kernel), List.mem_of_getElem? (i := 544) (by decide +kernel)⟩
theorem lw_p30 : lw_okq (⟨"java/util/ArrayList", "add", "(Ljava/lang/Object;[Ljava/lang/Object;I)V"⟩, 3) := ⟨⟨by decide +kernel, by decide +kernel⟩, List.mem_of_getElem? (i := 40) (by decide +kernel), List.mem_of_getElem? (i := 551) (by decide +kernel), List.mem_of_getElem? (i := 552) (by decide +kernel)⟩
theorem lw_p31 : lw_okq (⟨"java/util/ArrayList", "grow", "()[Ljava/lang/Object;"⟩, 3) := ⟨⟨by decide +kernel, by decide +kernel⟩, List.mem_of_getElem? (i := 40) (by decide +kernel), List.mem_of_getElem? (i := 555) (by decide +kernel), List.mem_of_getElem? (i := 556) (by decide +kernel)⟩
def lw_privs_2 : List (MethodName × Nat) := [(⟨"NetJoins", "joinSpot", "(LNetJoins$Spot;)V"⟩, 18), (⟨"NetJoins", "joinSamePlace", "(LNetJoins$Spot;Ljava/util/ArrayList;)V"⟩, 18), (⟨"NetJoins", "spreadOn", "(LNetJoins$Sheet;)V"⟩, 18), (⟨"NetJoins", "spreadSpots", "(LNetJoins$Sheet;Ljava/util/ArrayList;)V"⟩, 18), (⟨"NetJoins", "nodeOn", "(LNetJoins$Sheet;I)I"⟩, 18), (⟨"NetJoins", "joinBusesOn", "(LNetJoins$Sheet;)V"⟩, 18), (⟨"NetJoins", "joinBus", "(II)V"⟩, 18), (⟨"NetJoins", "joinMembers", "(LNetJoins$Bus;ILNetJoins$Bus;I)V"⟩, 18), (⟨"NetJoins", "longestBefore", "(I)LNetJoins$Bus;"⟩, 18), (⟨"NetJoins", "countNets", "()V"⟩, 18), (⟨"NetJoins", "needSheet", "(I)V"⟩, 18), (⟨"java/lang/Throwable", "fillInStackTrace", "(I)Ljava/lang/Throwable;"⟩, 6), (⟨"NetJoins", "needDrawn", "(I)V"⟩, 18), (⟨"NetJoins", "repeatOf", "(III)LNetJoins$Sheet;"⟩, 18), (⟨"java/util/ArrayList", "add", "(Ljava/lang/Object;[Ljava/lang/Object;I)V"⟩, 3), (⟨"java/util/ArrayList", "grow", "()[Ljava/lang/Object;"⟩, 3)]
theorem lw_r2 : ∀ q ∈ lw_privs_2, lw_okq q := List.forall_mem_cons.mpr ⟨lw_p16, List.forall_mem_cons.mpr ⟨lw_p17, List.forall_mem_cons.mpr ⟨lw_p18, List.forall_mem_cons.mpr ⟨lw_p19, List.forall_mem_cons.mpr ⟨lw_p20, List.forall_mem_cons.mpr ⟨lw_p21, List.forall_mem_cons.mpr ⟨lw_p22, List.forall_mem_cons.mpr ⟨lw_p23, List.forall_mem_cons.mpr ⟨lw_p24, List.forall_mem_cons.mpr ⟨lw_p25, List.forall_mem_cons.mpr ⟨lw_p26, List.forall_mem_cons.mpr ⟨lw_p27, List.forall_mem_cons.mpr ⟨lw_p28, List.forall_mem_cons.mpr ⟨lw_p29, List.forall_mem_cons.mpr ⟨lw_p30, List.forall_mem_cons.mpr ⟨lw_p31, fun _ h => absurd h List.not_mem_nil⟩⟩⟩⟩⟩⟩⟩⟩⟩⟩⟩⟩⟩⟩⟩⟩
theorem lw_p32 : lw_okq (⟨"java/util/ArrayList", "grow", "(I)[Ljava/lang/Object;"⟩, 3) := ⟨⟨by decide +kernel, by decide +kernel⟩, List.mem_of_getElem? (i := 40) (by decide +kernel), List.mem_of_getElem? (i := 559) (by decide +kernel), List.mem_of_getElem? (i := 560) (by decide +kernel)⟩
theorem lw_p33 : lw_okq (⟨"NetJoins", "keepUp", "()V"⟩, 18) := ⟨⟨by decide +kernel, by decide +kernel⟩, List.mem_of_getElem? (i := 32) (by decide +kernel), List.mem_of_getElem? (i := 607) (by decide +kernel), List.mem_of_getElem? (i := 608) (by decide +kernel)⟩
theorem lw_p34 : lw_okq (⟨"NetJoins", "joinThroughJunctions", "(LNetJoins$Wire;)V"⟩, 18) := ⟨⟨by decide +kernel, by decide +kernel⟩, List.mem_of_getElem? (i := 32) (by decide +kernel), List.mem_of_getElem? (i := 675) (by decide +kernel), List.mem_of_getElem? (i := 676) (by decide +kernel)⟩
theorem lw_p35 : lw_okq (⟨"NetJoins", "joinWithSpots", "(LNetJoins$Wire;Ljava/util/ArrayList;)V"⟩, 18) := ⟨⟨by decide +kernel, by decide +kernel⟩, List.mem_of_getElem? (i := 32) (by decide +kernel), List.mem_of_getElem? (i := 679) (by decide +kernel), List.mem_of_getElem? (i := 680) (by decide +kernel)⟩
theorem lw_p36 : lw_okq (⟨"NetJoins", "spreadOver", "(I)V"⟩, 18) := ⟨⟨by decide +kernel, by decide +kernel⟩, List.mem_of_getElem? (i := 32) (by decide +kernel), List.mem_of_getElem? (i := 683) (by decide +kernel), List.mem_of_getElem? (i := 684) (by decide +kernel)⟩
theorem lw_p37 : lw_okq (⟨"NetJoins", "putByName", "(LNetJoins$Spot;)V"⟩, 18) := ⟨⟨by decide +kernel, by decide +kernel⟩, List.mem_of_getElem? (i := 32) (by decide +kernel), List.mem_of_getElem? (i := 737) (by decide +kernel), List.mem_of_getElem? (i := 738) (by decide +kernel)⟩
theorem lw_p38 : lw_okq (⟨"java/util/ArrayList", "rangeCheckForAdd", "(I)V"⟩, 3) := ⟨⟨by decide +kernel, by decide +kernel⟩, List.mem_of_getElem? (i := 40) (by decide +kernel), List.mem_of_getElem? (i := 745) (by decide +kernel), List.mem_of_getElem? (i := 746) (by decide +kernel)⟩
theorem lw_p39 : lw_okq (⟨"java/util/ArrayList", "outOfBoundsMsg", "(I)Ljava/lang/String;"⟩, 3) := ⟨⟨by decide +kernel, by decide +kernel⟩, List.mem_of_getElem? (i := 40) (by decide +kernel), List.mem_of_getElem? (i := 750) (by decide +kernel), List.mem_of_getElem? (i := 751) (by decide +kernel)⟩
theorem lw_p40 : lw_okq (⟨"NetJoins", "hasPinOf", "(IIJJ)Z"⟩, 18) := ⟨⟨by decide +kernel, by decide +kernel⟩, List.mem_of_getElem? (i := 32) (by decide +kernel), List.mem_of_getElem? (i := 994) (by decide +kernel), List.mem_of_getElem? (i := 995) (by decide +kernel)⟩
theorem lw_p41 : lw_okq (⟨"NetJoins", "needLabelOn", "(II)V"⟩, 18) := ⟨⟨by decide +kernel, by decide +kernel⟩, List.mem_of_getElem? (i := 32) (by decide +kernel), List.mem_of_getElem? (i := 1005) (by decide +kernel), List.mem_of_getElem? (i := 1006) (by decide +kernel)⟩
theorem lw_p42 : lw_okq (⟨"NetJoins", "needParent", "(I)V"⟩, 18) := ⟨⟨by decide +kernel, by decide +kernel⟩, List.mem_of_getElem? (i := 32) (by decide +kernel), List.mem_of_getElem? (i := 1010) (by decide +kernel), List.mem_of_getElem? (i := 1011) (by decide +kernel)⟩
theorem lw_p43 : lw_okq (⟨"NetJoins", "hasPort", "(III)Z"⟩, 18) := ⟨⟨by decide +kernel, by decide +kernel⟩, List.mem_of_getElem? (i := 32) (by decide +kernel), List.mem_of_getElem? (i := 1015) (by decide +kernel), List.mem_of_getElem? (i := 1016) (by decide +kernel)⟩
theorem lw_p44 : lw_okq (⟨"NetJoins", "hasBus", "(IIII)Z"⟩, 18) := ⟨⟨by decide +kernel, by decide +kernel⟩, List.mem_of_getElem? (i := 32) (by decide +kernel), List.mem_of_getElem? (i := 1052) (by decide +kernel), List.mem_of_getElem? (i := 1053) (by decide +kernel)⟩
theorem lw_p45 : lw_okq (⟨"NetJoins", "needPin", "(I)V"⟩, 18) := ⟨⟨by decide +kernel, by decide +kernel⟩, List.mem_of_getElem? (i := 32) (by decide +kernel), List.mem_of_getElem? (i := 1085) (by decide +kernel), List.mem_of_getElem? (i := 1086) (by decide +kernel)⟩
theorem lw_p46 : lw_okq (⟨"NetJoinsModel", "isSheet", "(I)Z"⟩, 33) := ⟨⟨by decide +kernel, by decide +kernel⟩, List.mem_of_getElem? (i := 1130) (by decide +kernel), List.mem_of_getElem? (i := 1245) (by decide +kernel), List.mem_of_getElem? (i := 1246) (by decide +kernel)⟩
theorem lw_p47 : lw_okq (⟨"NetJoinsModel", "anew", "()V"⟩, 33) := ⟨⟨by decide +kernel, by decide +kernel⟩, List.mem_of_getElem? (i := 1130) (by decide +kernel), List.mem_of_getElem? (i := 1249) (by decide +kernel), List.mem_of_getElem? (i := 1250) (by decide +kernel)⟩
def lw_privs_3 : List (MethodName × Nat) := [(⟨"java/util/ArrayList", "grow", "(I)[Ljava/lang/Object;"⟩, 3), (⟨"NetJoins", "keepUp", "()V"⟩, 18), (⟨"NetJoins", "joinThroughJunctions", "(LNetJoins$Wire;)V"⟩, 18), (⟨"NetJoins", "joinWithSpots", "(LNetJoins$Wire;Ljava/util/ArrayList;)V"⟩, 18), (⟨"NetJoins", "spreadOver", "(I)V"⟩, 18), (⟨"NetJoins", "putByName", "(LNetJoins$Spot;)V"⟩, 18), (⟨"java/util/ArrayList", "rangeCheckForAdd", "(I)V"⟩, 3), (⟨"java/util/ArrayList", "outOfBoundsMsg", "(I)Ljava/lang/String;"⟩, 3), (⟨"NetJoins", "hasPinOf", "(IIJJ)Z"⟩, 18), (⟨"NetJoins", "needLabelOn", "(II)V"⟩, 18), (⟨"NetJoins", "needParent", "(I)V"⟩, 18), (⟨"NetJoins", "hasPort", "(III)Z"⟩, 18), (⟨"NetJoins", "hasBus", "(IIII)Z"⟩, 18), (⟨"NetJoins", "needPin", "(I)V"⟩, 18), (⟨"NetJoinsModel", "isSheet", "(I)Z"⟩, 33), (⟨"NetJoinsModel", "anew", "()V"⟩, 33)]
theorem lw_r3 : ∀ q ∈ lw_privs_3, lw_okq q := List.forall_mem_cons.mpr ⟨lw_p32, List.forall_mem_cons.mpr ⟨lw_p33, List.forall_mem_cons.mpr ⟨lw_p34, List.forall_mem_cons.mpr ⟨lw_p35, List.forall_mem_cons.mpr ⟨lw_p36, List.forall_mem_cons.mpr ⟨lw_p37, List.forall_mem_cons.mpr ⟨lw_p38, List.forall_mem_cons.mpr ⟨lw_p39, List.forall_mem_cons.mpr ⟨lw_p40, List.forall_mem_cons.mpr ⟨lw_p41, List.forall_mem_cons.mpr ⟨lw_p42, List.forall_mem_cons.mpr ⟨lw_p43, List.forall_mem_cons.mpr ⟨lw_p44, List.forall_mem_cons.mpr ⟨lw_p45, List.forall_mem_cons.mpr ⟨lw_p46, List.forall_mem_cons.mpr ⟨lw_p47, fun _ h => absurd h List.not_mem_nil⟩⟩⟩⟩⟩⟩⟩⟩⟩⟩⟩⟩⟩⟩⟩⟩
theorem lw_p48 : lw_okq (⟨"NetJoinsModel", "joinAll", "()V"⟩, 33) := ⟨⟨by decide +kernel, by decide +kernel⟩, List.mem_of_getElem? (i := 1130) (by decide +kernel), List.mem_of_getElem? (i := 1253) (by decide +kernel), List.mem_of_getElem? (i := 1254) (by decide +kernel)⟩
theorem lw_p49 : lw_okq (⟨"NetJoinsModel", "joinSheet", "(I)V"⟩, 33) := ⟨⟨by decide +kernel, by decide +kernel⟩, List.mem_of_getElem? (i := 1130) (by decide +kernel), List.mem_of_getElem? (i := 1257) (by decide +kernel), List.mem_of_getElem? (i := 1258) (by decide +kernel)⟩
theorem lw_p50 : lw_okq (⟨"NetJoinsModel", "joinWires", "(II)V"⟩, 33) := ⟨⟨by decide +kernel, by decide +kernel⟩, List.mem_of_getElem? (i := 1130) (by decide +kernel), List.mem_of_getElem? (i := 1261) (by decide +kernel), List.mem_of_getElem? (i := 1262) (by decide +kernel)⟩
theorem lw_p51 : lw_okq (⟨"NetJoinsModel", "isOn", "(II)Z"⟩, 33) := ⟨⟨by decide +kernel, by decide +kernel⟩, List.mem_of_getElem? (i := 1130) (by decide +kernel), List.mem_of_getElem? (i := 1265) (by decide +kernel), List.mem_of_getElem? (i := 1266) (by decide +kernel)⟩
theorem lw_p52 : lw_okq (⟨"NetJoinsModel", "haveEnd", "(II)Z"⟩, 33) := ⟨⟨by decide +kernel, by decide +kernel⟩, List.mem_of_getElem? (i := 1130) (by decide +kernel), List.mem_of_getElem? (i := 1269) (by decide +kernel), List.mem_of_getElem? (i := 1270) (by decide +kernel)⟩
theorem lw_p53 : lw_okq (⟨"NetJoinsModel", "goesThrough", "(IJJ)Z"⟩, 33) := ⟨⟨by decide +kernel, by decide +kernel⟩, List.mem_of_getElem? (i := 1130) (by decide +kernel), List.mem_of_getElem? (i := 1273) (by decide +kernel), List.mem_of_getElem? (i := 1274) (by decide +kernel)⟩
theorem lw_p54 : lw_okq (⟨"NetJoinsModel", "join", "(II)V"⟩, 33) := ⟨⟨by decide +kernel, by decide +kernel⟩, List.mem_of_getElem? (i := 1130) (by decide +kernel), List.mem_of_getElem? (i := 1277) (by decide +kernel), List.mem_of_getElem? (i := 1278) (by decide +kernel)⟩
theorem lw_p55 : lw_okq (⟨"NetJoinsModel", "leader", "(I)I"⟩, 33) := ⟨⟨by decide +kernel, by decide +kernel⟩, List.mem_of_getElem? (i := 1130) (by decide +kernel), List.mem_of_getElem? (i := 1281) (by decide +kernel), List.mem_of_getElem? (i := 1282) (by decide +kernel)⟩
theorem lw_p56 : lw_okq (⟨"NetJoinsModel", "joinPlace", "(IIIJJ)V"⟩, 33) := ⟨⟨by decide +kernel, by decide +kernel⟩, List.mem_of_getElem? (i := 1130) (by decide +kernel), List.mem_of_getElem? (i := 1285) (by decide +kernel), List.mem_of_getElem? (i := 1286) (by decide +kernel)⟩
theorem lw_p57 : lw_okq (⟨"NetJoinsModel", "nameNode", "(II)I"⟩, 33) := ⟨⟨by decide +kernel, by decide +kernel⟩, List.mem_of_getElem? (i := 1130) (by decide +kernel), List.mem_of_getElem? (i := 1289) (by decide +kernel), List.mem_of_getElem? (i := 1290) (by decide +kernel)⟩
theorem lw_p58 : lw_okq (⟨"NetJoinsModel", "joinBuses", "(IIII)V"⟩, 33) := ⟨⟨by decide +kernel, by decide +kernel⟩, List.mem_of_getElem? (i := 1130) (by decide +kernel), List.mem_of_getElem? (i := 1293) (by decide +kernel), List.mem_of_getElem? (i := 1294) (by decide +kernel)⟩
theorem lw_p59 : lw_okq (⟨"NetJoinsModel", "members", "(I)I"⟩, 33) := ⟨⟨by decide +kernel, by decide +kernel⟩, List.mem_of_getElem? (i := 1130) (by decide +kernel), List.mem_of_getElem? (i := 1297) (by decide +kernel), List.mem_of_getElem? (i := 1298) (by decide +kernel)⟩
theorem lw_p60 : lw_okq (⟨"NetJoinsModel", "member", "(II)I"⟩, 33) := ⟨⟨by decide +kernel, by decide +kernel⟩, List.mem_of_getElem? (i := 1130) (by decide +kernel), List.mem_of_getElem? (i := 1301) (by decide +kernel), List.mem_of_getElem? (i := 1302) (by decide +kernel)⟩
theorem lw_p61 : lw_okq (⟨"NetJoinsModel", "number", "()V"⟩, 33) := ⟨⟨by decide +kernel, by decide +kernel⟩, List.mem_of_getElem? (i := 1130) (by decide +kernel), List.mem_of_getElem? (i := 1305) (by decide +kernel), List.mem_of_getElem? (i := 1306) (by decide +kernel)⟩
theorem lw_p62 : lw_okq (⟨"NetJoinsModel", "wasThere", "(I)Z"⟩, 33) := ⟨⟨by decide +kernel, by decide +kernel⟩, List.mem_of_getElem? (i := 1130) (by decide +kernel), List.mem_of_getElem? (i := 1309) (by decide +kernel), List.mem_of_getElem? (i := 1310) (by decide +kernel)⟩
theorem lw_p63 : lw_okq (⟨"NetJoinsModel", "refusal", "(IZ)I"⟩, 33) := ⟨⟨by decide +kernel, by decide +kernel⟩, List.mem_of_getElem? (i := 1130) (by decide +kernel), List.mem_of_getElem? (i := 1322) (by decide +kernel), List.mem_of_getElem? (i := 1323) (by decide +kernel)⟩
def lw_privs_4 : List (MethodName × Nat) := [(⟨"NetJoinsModel", "joinAll", "()V"⟩, 33), (⟨"NetJoinsModel", "joinSheet", "(I)V"⟩, 33), (⟨"NetJoinsModel", "joinWires", "(II)V"⟩, 33), (⟨"NetJoinsModel", "isOn", "(II)Z"⟩, 33), (⟨"NetJoinsModel", "haveEnd", "(II)Z"⟩, 33), (⟨"NetJoinsModel", "goesThrough", "(IJJ)Z"⟩, 33), (⟨"NetJoinsModel", "join", "(II)V"⟩, 33), (⟨"NetJoinsModel", "leader", "(I)I"⟩, 33), (⟨"NetJoinsModel", "joinPlace", "(IIIJJ)V"⟩, 33), (⟨"NetJoinsModel", "nameNode", "(II)I"⟩, 33), (⟨"NetJoinsModel", "joinBuses", "(IIII)V"⟩, 33), (⟨"NetJoinsModel", "members", "(I)I"⟩, 33), (⟨"NetJoinsModel", "member", "(II)I"⟩, 33), (⟨"NetJoinsModel", "number", "()V"⟩, 33), (⟨"NetJoinsModel", "wasThere", "(I)Z"⟩, 33), (⟨"NetJoinsModel", "refusal", "(IZ)I"⟩, 33)]
theorem lw_r4 : ∀ q ∈ lw_privs_4, lw_okq q := List.forall_mem_cons.mpr ⟨lw_p48, List.forall_mem_cons.mpr ⟨lw_p49, List.forall_mem_cons.mpr ⟨lw_p50, List.forall_mem_cons.mpr ⟨lw_p51, List.forall_mem_cons.mpr ⟨lw_p52, List.forall_mem_cons.mpr ⟨lw_p53, List.forall_mem_cons.mpr ⟨lw_p54, List.forall_mem_cons.mpr ⟨lw_p55, List.forall_mem_cons.mpr ⟨lw_p56, List.forall_mem_cons.mpr ⟨lw_p57, List.forall_mem_cons.mpr ⟨lw_p58, List.forall_mem_cons.mpr ⟨lw_p59, List.forall_mem_cons.mpr ⟨lw_p60, List.forall_mem_cons.mpr ⟨lw_p61, List.forall_mem_cons.mpr ⟨lw_p62, List.forall_mem_cons.mpr ⟨lw_p63, fun _ h => absurd h List.not_mem_nil⟩⟩⟩⟩⟩⟩⟩⟩⟩⟩⟩⟩⟩⟩⟩⟩
theorem lw_p64 : lw_okq (⟨"NetJoinsModel", "copySheet", "(II)I"⟩, 33) := ⟨⟨by decide +kernel, by decide +kernel⟩, List.mem_of_getElem? (i := 1130) (by decide +kernel), List.mem_of_getElem? (i := 1361) (by decide +kernel), List.mem_of_getElem? (i := 1362) (by decide +kernel)⟩
theorem lw_p65 : lw_okq (⟨"NetJoinsModel", "nameOf", "(I)I"⟩, 33) := ⟨⟨by decide +kernel, by decide +kernel⟩, List.mem_of_getElem? (i := 1130) (by decide +kernel), List.mem_of_getElem? (i := 1373) (by decide +kernel), List.mem_of_getElem? (i := 1374) (by decide +kernel)⟩
theorem lw_p66 : lw_okq (⟨"NetJoinsModel", "hasName", "(II)Z"⟩, 33) := ⟨⟨by decide +kernel, by decide +kernel⟩, List.mem_of_getElem? (i := 1130) (by decide +kernel), List.mem_of_getElem? (i := 1377) (by decide +kernel), List.mem_of_getElem? (i := 1378) (by decide +kernel)⟩
theorem lw_p67 : lw_okq (⟨"NetJoinsModel", "isBare", "(I)Z"⟩, 33) := ⟨⟨by decide +kernel, by decide +kernel⟩, List.mem_of_getElem? (i := 1130) (by decide +kernel), List.mem_of_getElem? (i := 1389) (by decide +kernel), List.mem_of_getElem? (i := 1390) (by decide +kernel)⟩
theorem lw_p68 : lw_okq (⟨"NetJoinsModel", "isJoined", "(I)Z"⟩, 33) := ⟨⟨by decide +kernel, by decide +kernel⟩, List.mem_of_getElem? (i := 1130) (by decide +kernel), List.mem_of_getElem? (i := 1394) (by decide +kernel), List.mem_of_getElem? (i := 1395) (by decide +kernel)⟩
def lw_privs_5 : List (MethodName × Nat) := [(⟨"NetJoinsModel", "copySheet", "(II)I"⟩, 33), (⟨"NetJoinsModel", "nameOf", "(I)I"⟩, 33), (⟨"NetJoinsModel", "hasName", "(II)Z"⟩, 33), (⟨"NetJoinsModel", "isBare", "(I)Z"⟩, 33), (⟨"NetJoinsModel", "isJoined", "(I)Z"⟩, 33)]
theorem lw_r5 : ∀ q ∈ lw_privs_5, lw_okq q := List.forall_mem_cons.mpr ⟨lw_p64, List.forall_mem_cons.mpr ⟨lw_p65, List.forall_mem_cons.mpr ⟨lw_p66, List.forall_mem_cons.mpr ⟨lw_p67, List.forall_mem_cons.mpr ⟨lw_p68, fun _ h => absurd h List.not_mem_nil⟩⟩⟩⟩⟩
def lw_privs : List (MethodName × Nat) := lw_privs_1 ++ (lw_privs_2 ++ (lw_privs_3 ++ (lw_privs_4 ++ (lw_privs_5))))
def lw_tbl : List Cond := k2_sels lw_privs ++ tables_1
theorem lw_privs_ok : ∀ q ∈ lw_privs, lw_okq q := by
  show ∀ q ∈ lw_privs_1 ++ (lw_privs_2 ++ (lw_privs_3 ++ (lw_privs_4 ++ (lw_privs_5)))), lw_okq q
  exact List.forall_mem_append.mpr ⟨lw_r1, List.forall_mem_append.mpr ⟨lw_r2, List.forall_mem_append.mpr ⟨lw_r3, List.forall_mem_append.mpr ⟨lw_r4, lw_r5⟩⟩⟩⟩
end
section
/-- all words of the tables that a call may take along -/
def WA : List Cond := lw_tbl.filter goodWord
theorem wa_t {w : Cond} (i : Nat) (h : tables_1[i]? = some w) (g : goodWord w = true) : w ∈ WA := List.mem_filter.mpr ⟨List.mem_append_right _ (List.mem_of_getElem? h), g⟩
theorem wa_s {w : Cond} (i : Nat) (h : (k2_sels lw_privs)[i]? = some w) (g : goodWord w = true) : w ∈ WA := List.mem_filter.mpr ⟨List.mem_append_left _ (List.mem_of_getElem? h), g⟩
theorem wa_good {w : Cond} (h : w ∈ WA) : (w.onTables && w.keeps) = true ∨ ∃ ty, w = .arrayClass ty := good_of_word (List.mem_filter.mp h).2
theorem wa_self : GoodIn WA WA := fun w h => ⟨h, wa_good h⟩
def F_NJ : u_T := fun k => match k with
  | 0 => ("NetJoins", "sheets", "Ljava/util/ArrayList;", true)
  | 1 => ("NetJoins", "wires", "Ljava/util/ArrayList;", true)
  | 2 => ("NetJoins", "junctions", "Ljava/util/ArrayList;", true)
  | 3 => ("NetJoins", "labels", "Ljava/util/ArrayList;", true)
  | 4 => ("NetJoins", "labelsByName", "Ljava/util/ArrayList;", true)
  | 5 => ("NetJoins", "pins", "Ljava/util/ArrayList;", true)
  | 6 => ("NetJoins", "ports", "Ljava/util/ArrayList;", true)
  | 7 => ("NetJoins", "buses", "Ljava/util/ArrayList;", true)
  | 8 => ("NetJoins", "ranks", "[I", true)
  | 9 => ("NetJoins", "touching", "LNetJoins$Joins;", true)
  | 10 => ("NetJoins", "joined", "LNetJoins$Joins;", true)
  | 11 => ("NetJoins", "table", "LNetJoins$NetTable;", true)
  | 12 => ("NetJoins", "nameStart", "[I", true)
  | 13 => ("NetJoins", "netNames", "[I", true)
  | 14 => ("NetJoins", "namesAreListed", "Z", false)
  | 15 => ("NetJoins", "remarks", "[I", true)
  | 16 => ("NetJoins", "remarkCount", "I", false)
  | _ => ("NetJoins", "remarksAreListed", "Z", false)
def t_NJ : Nat → FieldType := fun k => match k with
  | 0 => .object "java/util/ArrayList"
  | 1 => .object "java/util/ArrayList"
  | 2 => .object "java/util/ArrayList"
  | 3 => .object "java/util/ArrayList"
  | 4 => .object "java/util/ArrayList"
  | 5 => .object "java/util/ArrayList"
  | 6 => .object "java/util/ArrayList"
  | 7 => .object "java/util/ArrayList"
  | 8 => .array .int
  | 9 => .object "NetJoins$Joins"
  | 10 => .object "NetJoins$Joins"
  | 11 => .object "NetJoins$NetTable"
  | 12 => .array .int
  | 13 => .array .int
  | 14 => .boolean
  | 15 => .array .int
  | 16 => .int
  | _ => .boolean
theorem n_NJ : ∀ a, a < 18 → ∀ b, b < 18 → a ≠ b → (F_NJ a).2.1 ≠ (F_NJ b).2.1 := by decide +kernel
theorem t_NJ_ok : ∀ k, k < 18 → parseFieldDescriptor (F_NJ k).2.2.1 = some (t_NJ k) := by decide +kernel
theorem iw_NJ_0 : u_lay "NetJoins" F_NJ 0 ∈ WA := wa_t 138 (by decide +kernel) (by decide +kernel)
theorem iw_NJ_1 : u_lay "NetJoins" F_NJ 1 ∈ WA := wa_t 140 (by decide +kernel) (by decide +kernel)
theorem iw_NJ_2 : u_lay "NetJoins" F_NJ 2 ∈ WA := wa_t 142 (by decide +kernel) (by decide +kernel)
theorem iw_NJ_3 : u_lay "NetJoins" F_NJ 3 ∈ WA := wa_t 144 (by decide +kernel) (by decide +kernel)
theorem iw_NJ_4 : u_lay "NetJoins" F_NJ 4 ∈ WA := wa_t 146 (by decide +kernel) (by decide +kernel)
theorem iw_NJ_5 : u_lay "NetJoins" F_NJ 5 ∈ WA := wa_t 148 (by decide +kernel) (by decide +kernel)
theorem iw_NJ_6 : u_lay "NetJoins" F_NJ 6 ∈ WA := wa_t 150 (by decide +kernel) (by decide +kernel)
theorem iw_NJ_7 : u_lay "NetJoins" F_NJ 7 ∈ WA := wa_t 152 (by decide +kernel) (by decide +kernel)
theorem iw_NJ_8 : u_lay "NetJoins" F_NJ 8 ∈ WA := wa_t 154 (by decide +kernel) (by decide +kernel)
theorem iw_NJ_9 : u_lay "NetJoins" F_NJ 9 ∈ WA := wa_t 156 (by decide +kernel) (by decide +kernel)
theorem iw_NJ_10 : u_lay "NetJoins" F_NJ 10 ∈ WA := wa_t 158 (by decide +kernel) (by decide +kernel)
theorem iw_NJ_11 : u_lay "NetJoins" F_NJ 11 ∈ WA := wa_t 160 (by decide +kernel) (by decide +kernel)
theorem iw_NJ_12 : u_lay "NetJoins" F_NJ 12 ∈ WA := wa_t 162 (by decide +kernel) (by decide +kernel)
theorem iw_NJ_13 : u_lay "NetJoins" F_NJ 13 ∈ WA := wa_t 164 (by decide +kernel) (by decide +kernel)
theorem iw_NJ_14 : u_lay "NetJoins" F_NJ 14 ∈ WA := wa_t 166 (by decide +kernel) (by decide +kernel)
theorem iw_NJ_15 : u_lay "NetJoins" F_NJ 15 ∈ WA := wa_t 168 (by decide +kernel) (by decide +kernel)
theorem iw_NJ_16 : u_lay "NetJoins" F_NJ 16 ∈ WA := wa_t 170 (by decide +kernel) (by decide +kernel)
theorem iw_NJ_17 : u_lay "NetJoins" F_NJ 17 ∈ WA := wa_t 172 (by decide +kernel) (by decide +kernel)
theorem i_NJ : ∀ w ∈ u_ws "NetJoins" F_NJ 18, w ∈ WA := by
  intro w hw
  obtain ⟨k, hk, rfl⟩ := List.mem_map.mp hw
  have hk := List.mem_range.mp hk
  match k, hk with
  | 0, _ => exact iw_NJ_0
  | 1, _ => exact iw_NJ_1
  | 2, _ => exact iw_NJ_2
  | 3, _ => exact iw_NJ_3
  | 4, _ => exact iw_NJ_4
  | 5, _ => exact iw_NJ_5
  | 6, _ => exact iw_NJ_6
  | 7, _ => exact iw_NJ_7
  | 8, _ => exact iw_NJ_8
  | 9, _ => exact iw_NJ_9
  | 10, _ => exact iw_NJ_10
  | 11, _ => exact iw_NJ_11
  | 12, _ => exact iw_NJ_12
  | 13, _ => exact iw_NJ_13
  | 14, _ => exact iw_NJ_14
  | 15, _ => exact iw_NJ_15
  | 16, _ => exact iw_NJ_16
  | 17, _ => exact iw_NJ_17
  | k + 18, hk => omega
def F_Bus : u_T := fun k => match k with
  | 0 => ("NetJoins$Bus", "sheet", "I", true)
  | 1 => ("NetJoins$Bus", "name", "I", true)
  | 2 => ("NetJoins$Bus", "from", "I", true)
  | _ => ("NetJoins$Bus", "to", "I", true)
def t_Bus : Nat → FieldType := fun k => match k with
  | 0 => .int
  | 1 => .int
  | 2 => .int
  | _ => .int
theorem n_Bus : ∀ a, a < 4 → ∀ b, b < 4 → a ≠ b → (F_Bus a).2.1 ≠ (F_Bus b).2.1 := by decide +kernel
theorem t_Bus_ok : ∀ k, k < 4 → parseFieldDescriptor (F_Bus k).2.2.1 = some (t_Bus k) := by decide +kernel
theorem iw_Bus_0 : u_lay "NetJoins$Bus" F_Bus 0 ∈ WA := wa_t 1068 (by decide +kernel) (by decide +kernel)
theorem iw_Bus_1 : u_lay "NetJoins$Bus" F_Bus 1 ∈ WA := wa_t 1070 (by decide +kernel) (by decide +kernel)
theorem iw_Bus_2 : u_lay "NetJoins$Bus" F_Bus 2 ∈ WA := wa_t 1072 (by decide +kernel) (by decide +kernel)
theorem iw_Bus_3 : u_lay "NetJoins$Bus" F_Bus 3 ∈ WA := wa_t 1074 (by decide +kernel) (by decide +kernel)
theorem i_Bus : ∀ w ∈ u_ws "NetJoins$Bus" F_Bus 4, w ∈ WA := by
  intro w hw
  obtain ⟨k, hk, rfl⟩ := List.mem_map.mp hw
  have hk := List.mem_range.mp hk
  match k, hk with
  | 0, _ => exact iw_Bus_0
  | 1, _ => exact iw_Bus_1
  | 2, _ => exact iw_Bus_2
  | 3, _ => exact iw_Bus_3
  | k + 4, hk => omega
def F_Joins : u_T := fun k => match k with
  | _ => ("NetJoins$Joins", "up", "[[I", true)
def t_Joins : Nat → FieldType := fun k => match k with
  | _ => .array (.array .int)
theorem n_Joins : ∀ a, a < 1 → ∀ b, b < 1 → a ≠ b → (F_Joins a).2.1 ≠ (F_Joins b).2.1 := by decide +kernel
theorem t_Joins_ok : ∀ k, k < 1 → parseFieldDescriptor (F_Joins k).2.2.1 = some (t_Joins k) := by decide +kernel
theorem iw_Joins_0 : u_lay "NetJoins$Joins" F_Joins 0 ∈ WA := wa_t 81 (by decide +kernel) (by decide +kernel)
theorem i_Joins : ∀ w ∈ u_ws "NetJoins$Joins" F_Joins 1, w ∈ WA := by
  intro w hw
  obtain ⟨k, hk, rfl⟩ := List.mem_map.mp hw
  have hk := List.mem_range.mp hk
  match k, hk with
  | 0, _ => exact iw_Joins_0
  | k + 1, hk => omega
def F_Tab : u_T := fun k => match k with
  | 0 => ("NetJoins$NetTable", "least", "[I", true)
  | 1 => ("NetJoins$NetTable", "leastBefore", "[I", true)
  | 2 => ("NetJoins$NetTable", "net", "[I", true)
  | 3 => ("NetJoins$NetTable", "size", "[I", true)
  | 4 => ("NetJoins$NetTable", "isChanged", "[Z", true)
  | 5 => ("NetJoins$NetTable", "count", "I", false)
  | _ => ("NetJoins$NetTable", "used", "I", false)
def t_Tab : Nat → FieldType := fun k => match k with
  | 0 => .array .int
  | 1 => .array .int
  | 2 => .array .int
  | 3 => .array .int
  | 4 => .array (.boolean)
  | 5 => .int
  | _ => .int
theorem n_Tab : ∀ a, a < 7 → ∀ b, b < 7 → a ≠ b → (F_Tab a).2.1 ≠ (F_Tab b).2.1 := by decide +kernel
theorem t_Tab_ok : ∀ k, k < 7 → parseFieldDescriptor (F_Tab k).2.2.1 = some (t_Tab k) := by decide +kernel
theorem iw_Tab_0 : u_lay "NetJoins$NetTable" F_Tab 0 ∈ WA := wa_t 104 (by decide +kernel) (by decide +kernel)
theorem iw_Tab_1 : u_lay "NetJoins$NetTable" F_Tab 1 ∈ WA := wa_t 106 (by decide +kernel) (by decide +kernel)
theorem iw_Tab_2 : u_lay "NetJoins$NetTable" F_Tab 2 ∈ WA := wa_t 108 (by decide +kernel) (by decide +kernel)
theorem iw_Tab_3 : u_lay "NetJoins$NetTable" F_Tab 3 ∈ WA := wa_t 110 (by decide +kernel) (by decide +kernel)
theorem iw_Tab_4 : u_lay "NetJoins$NetTable" F_Tab 4 ∈ WA := wa_t 112 (by decide +kernel) (by decide +kernel)
theorem iw_Tab_5 : u_lay "NetJoins$NetTable" F_Tab 5 ∈ WA := wa_t 114 (by decide +kernel) (by decide +kernel)
theorem iw_Tab_6 : u_lay "NetJoins$NetTable" F_Tab 6 ∈ WA := wa_t 116 (by decide +kernel) (by decide +kernel)
theorem i_Tab : ∀ w ∈ u_ws "NetJoins$NetTable" F_Tab 7, w ∈ WA := by
  intro w hw
  obtain ⟨k, hk, rfl⟩ := List.mem_map.mp hw
  have hk := List.mem_range.mp hk
  match k, hk with
  | 0, _ => exact iw_Tab_0
  | 1, _ => exact iw_Tab_1
  | 2, _ => exact iw_Tab_2
  | 3, _ => exact iw_Tab_3
  | 4, _ => exact iw_Tab_4
  | 5, _ => exact iw_Tab_5
  | 6, _ => exact iw_Tab_6
  | k + 7, hk => omega
def F_Port : u_T := fun k => match k with
  | 0 => ("NetJoins$Port", "sheet", "I", true)
  | 1 => ("NetJoins$Port", "label", "I", true)
  | 2 => ("NetJoins$Port", "name", "I", true)
  | 3 => ("NetJoins$Port", "inner", "I", true)
  | _ => ("NetJoins$Port", "outer", "I", true)
def t_Port : Nat → FieldType := fun k => match k with
  | 0 => .int
  | 1 => .int
  | 2 => .int
  | 3 => .int
  | _ => .int
theorem n_Port : ∀ a, a < 5 → ∀ b, b < 5 → a ≠ b → (F_Port a).2.1 ≠ (F_Port b).2.1 := by decide +kernel
theorem t_Port_ok : ∀ k, k < 5 → parseFieldDescriptor (F_Port k).2.2.1 = some (t_Port k) := by decide +kernel
theorem iw_Port_0 : u_lay "NetJoins$Port" F_Port 0 ∈ WA := wa_t 1033 (by decide +kernel) (by decide +kernel)
theorem iw_Port_1 : u_lay "NetJoins$Port" F_Port 1 ∈ WA := wa_t 1035 (by decide +kernel) (by decide +kernel)
theorem iw_Port_2 : u_lay "NetJoins$Port" F_Port 2 ∈ WA := wa_t 1037 (by decide +kernel) (by decide +kernel)
theorem iw_Port_3 : u_lay "NetJoins$Port" F_Port 3 ∈ WA := wa_t 1039 (by decide +kernel) (by decide +kernel)
theorem iw_Port_4 : u_lay "NetJoins$Port" F_Port 4 ∈ WA := wa_t 1041 (by decide +kernel) (by decide +kernel)
theorem i_Port : ∀ w ∈ u_ws "NetJoins$Port" F_Port 5, w ∈ WA := by
  intro w hw
  obtain ⟨k, hk, rfl⟩ := List.mem_map.mp hw
  have hk := List.mem_range.mp hk
  match k, hk with
  | 0, _ => exact iw_Port_0
  | 1, _ => exact iw_Port_1
  | 2, _ => exact iw_Port_2
  | 3, _ => exact iw_Port_3
  | 4, _ => exact iw_Port_4
  | k + 5, hk => omega
def F_Sheet : u_T := fun k => match k with
  | 0 => ("NetJoins$Sheet", "number", "I", true)
  | 1 => ("NetJoins$Sheet", "parent", "I", true)
  | 2 => ("NetJoins$Sheet", "drawn", "I", true)
  | 3 => ("NetJoins$Sheet", "copy", "I", true)
  | _ => ("NetJoins$Sheet", "copies", "I", false)
def t_Sheet : Nat → FieldType := fun k => match k with
  | 0 => .int
  | 1 => .int
  | 2 => .int
  | 3 => .int
  | _ => .int
theorem n_Sheet : ∀ a, a < 5 → ∀ b, b < 5 → a ≠ b → (F_Sheet a).2.1 ≠ (F_Sheet b).2.1 := by decide +kernel
theorem t_Sheet_ok : ∀ k, k < 5 → parseFieldDescriptor (F_Sheet k).2.2.1 = some (t_Sheet k) := by decide +kernel
theorem iw_Sheet_0 : u_lay "NetJoins$Sheet" F_Sheet 0 ∈ WA := wa_t 531 (by decide +kernel) (by decide +kernel)
theorem iw_Sheet_1 : u_lay "NetJoins$Sheet" F_Sheet 1 ∈ WA := wa_t 533 (by decide +kernel) (by decide +kernel)
theorem iw_Sheet_2 : u_lay "NetJoins$Sheet" F_Sheet 2 ∈ WA := wa_t 535 (by decide +kernel) (by decide +kernel)
theorem iw_Sheet_3 : u_lay "NetJoins$Sheet" F_Sheet 3 ∈ WA := wa_t 537 (by decide +kernel) (by decide +kernel)
theorem iw_Sheet_4 : u_lay "NetJoins$Sheet" F_Sheet 4 ∈ WA := wa_t 539 (by decide +kernel) (by decide +kernel)
theorem i_Sheet : ∀ w ∈ u_ws "NetJoins$Sheet" F_Sheet 5, w ∈ WA := by
  intro w hw
  obtain ⟨k, hk, rfl⟩ := List.mem_map.mp hw
  have hk := List.mem_range.mp hk
  match k, hk with
  | 0, _ => exact iw_Sheet_0
  | 1, _ => exact iw_Sheet_1
  | 2, _ => exact iw_Sheet_2
  | 3, _ => exact iw_Sheet_3
  | 4, _ => exact iw_Sheet_4
  | k + 5, hk => omega
def F_Spot : u_T := fun k => match k with
  | 0 => ("NetJoins$Spot", "sheet", "I", true)
  | 1 => ("NetJoins$Spot", "x", "J", true)
  | 2 => ("NetJoins$Spot", "y", "J", true)
  | 3 => ("NetJoins$Spot", "mark", "I", true)
  | 4 => ("NetJoins$Spot", "thing", "I", true)
  | _ => ("NetJoins$Spot", "open", "Z", false)
def t_Spot : Nat → FieldType := fun k => match k with
  | 0 => .int
  | 1 => .long
  | 2 => .long
  | 3 => .int
  | 4 => .int
  | _ => .boolean
theorem n_Spot : ∀ a, a < 6 → ∀ b, b < 6 → a ≠ b → (F_Spot a).2.1 ≠ (F_Spot b).2.1 := by decide +kernel
theorem t_Spot_ok : ∀ k, k < 6 → parseFieldDescriptor (F_Spot k).2.2.1 = some (t_Spot k) := by decide +kernel
theorem iw_Spot_0 : u_lay "NetJoins$Spot" F_Spot 0 ∈ WA := wa_t 712 (by decide +kernel) (by decide +kernel)
theorem iw_Spot_1 : u_lay "NetJoins$Spot" F_Spot 1 ∈ WA := wa_t 714 (by decide +kernel) (by decide +kernel)
theorem iw_Spot_2 : u_lay "NetJoins$Spot" F_Spot 2 ∈ WA := wa_t 716 (by decide +kernel) (by decide +kernel)
theorem iw_Spot_3 : u_lay "NetJoins$Spot" F_Spot 3 ∈ WA := wa_t 718 (by decide +kernel) (by decide +kernel)
theorem iw_Spot_4 : u_lay "NetJoins$Spot" F_Spot 4 ∈ WA := wa_t 720 (by decide +kernel) (by decide +kernel)
theorem iw_Spot_5 : u_lay "NetJoins$Spot" F_Spot 5 ∈ WA := wa_t 722 (by decide +kernel) (by decide +kernel)
theorem i_Spot : ∀ w ∈ u_ws "NetJoins$Spot" F_Spot 6, w ∈ WA := by
  intro w hw
  obtain ⟨k, hk, rfl⟩ := List.mem_map.mp hw
  have hk := List.mem_range.mp hk
  match k, hk with
  | 0, _ => exact iw_Spot_0
  | 1, _ => exact iw_Spot_1
  | 2, _ => exact iw_Spot_2
  | 3, _ => exact iw_Spot_3
  | 4, _ => exact iw_Spot_4
  | 5, _ => exact iw_Spot_5
  | k + 6, hk => omega
def F_Wire : u_T := fun k => match k with
  | 0 => ("NetJoins$Wire", "sheet", "I", true)
  | 1 => ("NetJoins$Wire", "number", "I", true)
  | 2 => ("NetJoins$Wire", "x", "J", true)
  | 3 => ("NetJoins$Wire", "y", "J", true)
  | 4 => ("NetJoins$Wire", "x2", "J", true)
  | 5 => ("NetJoins$Wire", "y2", "J", true)
  | _ => ("NetJoins$Wire", "dropped", "Z", false)
def t_Wire : Nat → FieldType := fun k => match k with
  | 0 => .int
  | 1 => .int
  | 2 => .long
  | 3 => .long
  | 4 => .long
  | 5 => .long
  | _ => .boolean
theorem n_Wire : ∀ a, a < 7 → ∀ b, b < 7 → a ≠ b → (F_Wire a).2.1 ≠ (F_Wire b).2.1 := by decide +kernel
theorem t_Wire_ok : ∀ k, k < 7 → parseFieldDescriptor (F_Wire k).2.2.1 = some (t_Wire k) := by decide +kernel
theorem iw_Wire_0 : u_lay "NetJoins$Wire" F_Wire 0 ∈ WA := wa_t 659 (by decide +kernel) (by decide +kernel)
theorem iw_Wire_1 : u_lay "NetJoins$Wire" F_Wire 1 ∈ WA := wa_t 661 (by decide +kernel) (by decide +kernel)
theorem iw_Wire_2 : u_lay "NetJoins$Wire" F_Wire 2 ∈ WA := wa_t 663 (by decide +kernel) (by decide +kernel)
theorem iw_Wire_3 : u_lay "NetJoins$Wire" F_Wire 3 ∈ WA := wa_t 665 (by decide +kernel) (by decide +kernel)
theorem iw_Wire_4 : u_lay "NetJoins$Wire" F_Wire 4 ∈ WA := wa_t 667 (by decide +kernel) (by decide +kernel)
theorem iw_Wire_5 : u_lay "NetJoins$Wire" F_Wire 5 ∈ WA := wa_t 669 (by decide +kernel) (by decide +kernel)
theorem iw_Wire_6 : u_lay "NetJoins$Wire" F_Wire 6 ∈ WA := wa_t 671 (by decide +kernel) (by decide +kernel)
theorem i_Wire : ∀ w ∈ u_ws "NetJoins$Wire" F_Wire 7, w ∈ WA := by
  intro w hw
  obtain ⟨k, hk, rfl⟩ := List.mem_map.mp hw
  have hk := List.mem_range.mp hk
  match k, hk with
  | 0, _ => exact iw_Wire_0
  | 1, _ => exact iw_Wire_1
  | 2, _ => exact iw_Wire_2
  | 3, _ => exact iw_Wire_3
  | 4, _ => exact iw_Wire_4
  | 5, _ => exact iw_Wire_5
  | 6, _ => exact iw_Wire_6
  | k + 7, hk => omega
def F_Mod : u_T := fun k => match k with
  | 0 => ("NetJoinsModel", "thrown", "I", false)
  | 1 => ("NetJoinsModel", "sheets", "I", false)
  | 2 => ("NetJoinsModel", "parents", "[I", true)
  | 3 => ("NetJoinsModel", "bases", "[I", true)
  | 4 => ("NetJoinsModel", "wires", "I", false)
  | 5 => ("NetJoinsModel", "wireSheet", "[I", true)
  | 6 => ("NetJoinsModel", "wireAt", "[J", true)
  | 7 => ("NetJoinsModel", "dropped", "[Z", true)
  | 8 => ("NetJoinsModel", "junctions", "I", false)
  | 9 => ("NetJoinsModel", "junctionSheet", "[I", true)
  | 10 => ("NetJoinsModel", "junctionAt", "[J", true)
  | 11 => ("NetJoinsModel", "labels", "I", false)
  | 12 => ("NetJoinsModel", "labelSheet", "[I", true)
  | 13 => ("NetJoinsModel", "labelName", "[I", true)
  | 14 => ("NetJoinsModel", "labelAt", "[J", true)
  | 15 => ("NetJoinsModel", "pins", "I", false)
  | 16 => ("NetJoinsModel", "pinSheet", "[I", true)
  | 17 => ("NetJoinsModel", "pinPart", "[I", true)
  | 18 => ("NetJoinsModel", "pinAt", "[J", true)
  | 19 => ("NetJoinsModel", "opens", "[Z", true)
  | 20 => ("NetJoinsModel", "ports", "I", false)
  | 21 => ("NetJoinsModel", "port", "[I", true)
  | 22 => ("NetJoinsModel", "buses", "I", false)
  | 23 => ("NetJoinsModel", "bus", "[I", true)
  | 24 => ("NetJoinsModel", "ranks", "[I", true)
  | 25 => ("NetJoinsModel", "near", "[I", true)
  | 26 => ("NetJoinsModel", "netAt", "[I", true)
  | 27 => ("NetJoinsModel", "net", "[I", true)
  | 28 => ("NetJoinsModel", "netBefore", "[I", true)
  | 29 => ("NetJoinsModel", "netCount", "I", false)
  | 30 => ("NetJoinsModel", "isChanged", "[Z", true)
  | 31 => ("NetJoinsModel", "changes", "I", false)
  | _ => ("NetJoinsModel", "hasNets", "Z", false)
def t_Mod : Nat → FieldType := fun k => match k with
  | 0 => .int
  | 1 => .int
  | 2 => .array .int
  | 3 => .array .int
  | 4 => .int
  | 5 => .array .int
  | 6 => .array (.long)
  | 7 => .array (.boolean)
  | 8 => .int
  | 9 => .array .int
  | 10 => .array (.long)
  | 11 => .int
  | 12 => .array .int
  | 13 => .array .int
  | 14 => .array (.long)
  | 15 => .int
  | 16 => .array .int
  | 17 => .array .int
  | 18 => .array (.long)
  | 19 => .array (.boolean)
  | 20 => .int
  | 21 => .array .int
  | 22 => .int
  | 23 => .array .int
  | 24 => .array .int
  | 25 => .array .int
  | 26 => .array .int
  | 27 => .array .int
  | 28 => .array .int
  | 29 => .int
  | 30 => .array (.boolean)
  | 31 => .int
  | _ => .boolean
theorem n_Mod : ∀ a, a < 33 → ∀ b, b < 33 → a ≠ b → (F_Mod a).2.1 ≠ (F_Mod b).2.1 := by decide +kernel
theorem t_Mod_ok : ∀ k, k < 33 → parseFieldDescriptor (F_Mod k).2.2.1 = some (t_Mod k) := by decide +kernel
theorem iw_Mod_0 : u_lay "NetJoinsModel" F_Mod 0 ∈ WA := wa_t 1168 (by decide +kernel) (by decide +kernel)
theorem iw_Mod_1 : u_lay "NetJoinsModel" F_Mod 1 ∈ WA := wa_t 1170 (by decide +kernel) (by decide +kernel)
theorem iw_Mod_2 : u_lay "NetJoinsModel" F_Mod 2 ∈ WA := wa_t 1172 (by decide +kernel) (by decide +kernel)
theorem iw_Mod_3 : u_lay "NetJoinsModel" F_Mod 3 ∈ WA := wa_t 1174 (by decide +kernel) (by decide +kernel)
theorem iw_Mod_4 : u_lay "NetJoinsModel" F_Mod 4 ∈ WA := wa_t 1176 (by decide +kernel) (by decide +kernel)
theorem iw_Mod_5 : u_lay "NetJoinsModel" F_Mod 5 ∈ WA := wa_t 1178 (by decide +kernel) (by decide +kernel)
theorem iw_Mod_6 : u_lay "NetJoinsModel" F_Mod 6 ∈ WA := wa_t 1180 (by decide +kernel) (by decide +kernel)
theorem iw_Mod_7 : u_lay "NetJoinsModel" F_Mod 7 ∈ WA := wa_t 1182 (by decide +kernel) (by decide +kernel)
theorem iw_Mod_8 : u_lay "NetJoinsModel" F_Mod 8 ∈ WA := wa_t 1184 (by decide +kernel) (by decide +kernel)
theorem iw_Mod_9 : u_lay "NetJoinsModel" F_Mod 9 ∈ WA := wa_t 1186 (by decide +kernel) (by decide +kernel)
theorem iw_Mod_10 : u_lay "NetJoinsModel" F_Mod 10 ∈ WA := wa_t 1188 (by decide +kernel) (by decide +kernel)
theorem iw_Mod_11 : u_lay "NetJoinsModel" F_Mod 11 ∈ WA := wa_t 1190 (by decide +kernel) (by decide +kernel)
theorem iw_Mod_12 : u_lay "NetJoinsModel" F_Mod 12 ∈ WA := wa_t 1192 (by decide +kernel) (by decide +kernel)
theorem iw_Mod_13 : u_lay "NetJoinsModel" F_Mod 13 ∈ WA := wa_t 1194 (by decide +kernel) (by decide +kernel)
theorem iw_Mod_14 : u_lay "NetJoinsModel" F_Mod 14 ∈ WA := wa_t 1196 (by decide +kernel) (by decide +kernel)
theorem iw_Mod_15 : u_lay "NetJoinsModel" F_Mod 15 ∈ WA := wa_t 1198 (by decide +kernel) (by decide +kernel)
theorem iw_Mod_16 : u_lay "NetJoinsModel" F_Mod 16 ∈ WA := wa_t 1200 (by decide +kernel) (by decide +kernel)
theorem iw_Mod_17 : u_lay "NetJoinsModel" F_Mod 17 ∈ WA := wa_t 1202 (by decide +kernel) (by decide +kernel)
theorem iw_Mod_18 : u_lay "NetJoinsModel" F_Mod 18 ∈ WA := wa_t 1204 (by decide +kernel) (by decide +kernel)
theorem iw_Mod_19 : u_lay "NetJoinsModel" F_Mod 19 ∈ WA := wa_t 1206 (by decide +kernel) (by decide +kernel)
theorem iw_Mod_20 : u_lay "NetJoinsModel" F_Mod 20 ∈ WA := wa_t 1208 (by decide +kernel) (by decide +kernel)
theorem iw_Mod_21 : u_lay "NetJoinsModel" F_Mod 21 ∈ WA := wa_t 1210 (by decide +kernel) (by decide +kernel)
theorem iw_Mod_22 : u_lay "NetJoinsModel" F_Mod 22 ∈ WA := wa_t 1212 (by decide +kernel) (by decide +kernel)
theorem iw_Mod_23 : u_lay "NetJoinsModel" F_Mod 23 ∈ WA := wa_t 1214 (by decide +kernel) (by decide +kernel)
theorem iw_Mod_24 : u_lay "NetJoinsModel" F_Mod 24 ∈ WA := wa_t 1216 (by decide +kernel) (by decide +kernel)
theorem iw_Mod_25 : u_lay "NetJoinsModel" F_Mod 25 ∈ WA := wa_t 1218 (by decide +kernel) (by decide +kernel)
theorem iw_Mod_26 : u_lay "NetJoinsModel" F_Mod 26 ∈ WA := wa_t 1220 (by decide +kernel) (by decide +kernel)
theorem iw_Mod_27 : u_lay "NetJoinsModel" F_Mod 27 ∈ WA := wa_t 1222 (by decide +kernel) (by decide +kernel)
theorem iw_Mod_28 : u_lay "NetJoinsModel" F_Mod 28 ∈ WA := wa_t 1224 (by decide +kernel) (by decide +kernel)
theorem iw_Mod_29 : u_lay "NetJoinsModel" F_Mod 29 ∈ WA := wa_t 1226 (by decide +kernel) (by decide +kernel)
theorem iw_Mod_30 : u_lay "NetJoinsModel" F_Mod 30 ∈ WA := wa_t 1228 (by decide +kernel) (by decide +kernel)
theorem iw_Mod_31 : u_lay "NetJoinsModel" F_Mod 31 ∈ WA := wa_t 1230 (by decide +kernel) (by decide +kernel)
theorem iw_Mod_32 : u_lay "NetJoinsModel" F_Mod 32 ∈ WA := wa_t 1232 (by decide +kernel) (by decide +kernel)
theorem i_Mod : ∀ w ∈ u_ws "NetJoinsModel" F_Mod 33, w ∈ WA := by
  intro w hw
  obtain ⟨k, hk, rfl⟩ := List.mem_map.mp hw
  have hk := List.mem_range.mp hk
  match k, hk with
  | 0, _ => exact iw_Mod_0
  | 1, _ => exact iw_Mod_1
  | 2, _ => exact iw_Mod_2
  | 3, _ => exact iw_Mod_3
  | 4, _ => exact iw_Mod_4
  | 5, _ => exact iw_Mod_5
  | 6, _ => exact iw_Mod_6
  | 7, _ => exact iw_Mod_7
  | 8, _ => exact iw_Mod_8
  | 9, _ => exact iw_Mod_9
  | 10, _ => exact iw_Mod_10
  | 11, _ => exact iw_Mod_11
  | 12, _ => exact iw_Mod_12
  | 13, _ => exact iw_Mod_13
  | 14, _ => exact iw_Mod_14
  | 15, _ => exact iw_Mod_15
  | 16, _ => exact iw_Mod_16
  | 17, _ => exact iw_Mod_17
  | 18, _ => exact iw_Mod_18
  | 19, _ => exact iw_Mod_19
  | 20, _ => exact iw_Mod_20
  | 21, _ => exact iw_Mod_21
  | 22, _ => exact iw_Mod_22
  | 23, _ => exact iw_Mod_23
  | 24, _ => exact iw_Mod_24
  | 25, _ => exact iw_Mod_25
  | 26, _ => exact iw_Mod_26
  | 27, _ => exact iw_Mod_27
  | 28, _ => exact iw_Mod_28
  | 29, _ => exact iw_Mod_29
  | 30, _ => exact iw_Mod_30
  | 31, _ => exact iw_Mod_31
  | 32, _ => exact iw_Mod_32
  | k + 33, hk => omega
def F_AL : u_T := fun k => match k with
  | 0 => ("java/util/ArrayList", "elementData", "[Ljava/lang/Object;", false)
  | 1 => ("java/util/ArrayList", "size", "I", false)
  | _ => ("java/util/AbstractList", "modCount", "I", false)
def t_AL : Nat → FieldType := fun k => match k with
  | 0 => .array (.object "java/lang/Object")
  | 1 => .int
  | _ => .int
theorem n_AL : ∀ a, a < 3 → ∀ b, b < 3 → a ≠ b → (F_AL a).2.1 ≠ (F_AL b).2.1 := by decide +kernel
theorem t_AL_ok : ∀ k, k < 3 → parseFieldDescriptor (F_AL k).2.2.1 = some (t_AL k) := by decide +kernel
theorem iw_AL_0 : u_lay "java/util/ArrayList" F_AL 0 ∈ WA := wa_t 58 (by decide +kernel) (by decide +kernel)
theorem iw_AL_1 : u_lay "java/util/ArrayList" F_AL 1 ∈ WA := wa_t 60 (by decide +kernel) (by decide +kernel)
theorem iw_AL_2 : u_lay "java/util/ArrayList" F_AL 2 ∈ WA := wa_t 62 (by decide +kernel) (by decide +kernel)
theorem i_AL : ∀ w ∈ u_ws "java/util/ArrayList" F_AL 3, w ∈ WA := by
  intro w hw
  obtain ⟨k, hk, rfl⟩ := List.mem_map.mp hw
  have hk := List.mem_range.mp hk
  match k, hk with
  | 0, _ => exact iw_AL_0
  | 1, _ => exact iw_AL_1
  | 2, _ => exact iw_AL_2
  | k + 3, hk => omega
def vcl : List vw_C := [("NetJoins", F_NJ, 18), ("NetJoins$Bus", F_Bus, 4), ("NetJoins$Joins", F_Joins, 1), ("NetJoins$NetTable", F_Tab, 7), ("NetJoins$Port", F_Port, 5), ("NetJoins$Sheet", F_Sheet, 5), ("NetJoins$Spot", F_Spot, 6), ("NetJoins$Wire", F_Wire, 7), ("NetJoinsModel", F_Mod, 33), ("java/util/ArrayList", F_AL, 3)]
def lk : Nat → List Nat := fun ci => match ci with
  | 0 => [2, 2, 2, 2, 2, 2, 2, 2, 2, 2, 2, 2, 2, 2, 0, 2, 0, 0]
  | 1 => [0, 0, 0, 0]
  | 2 => [2]
  | 3 => [2, 2, 2, 2, 2, 0, 0]
  | 4 => [0, 0, 0, 0, 0]
  | 5 => [0, 0, 0, 0, 0]
  | 6 => [0, 1, 1, 0, 0, 0]
  | 7 => [0, 0, 1, 1, 1, 1, 0]
  | 8 => [0, 0, 2, 2, 0, 2, 2, 2, 0, 2, 2, 0, 2, 2, 2, 0, 2, 2, 2, 2, 0, 2, 0, 2, 2, 2, 2, 2, 2, 0, 2, 0, 0]
  | _ => [2, 0, 0]
end
section
/-! PURE HEAPS. gT: the kind of an address (0: none; 1 int[], 2 boolean[], 3 long[], 4 Object[], 5 int[][], 16 + c: an object of class c of vcl); gI, gJ, gR: int, long, reference fields by field number and address; gN: lengths; gA, gL, gQ: contents of arrays -/
abbrev HS : Type := (Nat → Nat) × (Nat → Nat → Int32) × (Nat → Nat → Int64) × (Nat → Nat → Option Nat) × (Nat → Nat) × (Nat → Nat → Int32) × (Nat → Nat → Int64) × (Nat → Nat → Option Nat)
def gT (h : HS) : Nat → Nat := h.1
def gI (h : HS) : Nat → Nat → Int32 := h.2.1
def gJ (h : HS) : Nat → Nat → Int64 := h.2.2.1
def gR (h : HS) : Nat → Nat → Option Nat := h.2.2.2.1
def gN (h : HS) : Nat → Nat := h.2.2.2.2.1
def gA (h : HS) : Nat → Nat → Int32 := h.2.2.2.2.2.1
def gL (h : HS) : Nat → Nat → Int64 := h.2.2.2.2.2.2.1
def gQ (h : HS) : Nat → Nat → Option Nat := h.2.2.2.2.2.2.2
def sI (h : HS) (f a : Nat) (v : Int32) : HS := (gT h, va_up (gI h) f (va_up (gI h f) a v), gJ h, gR h, gN h, gA h, gL h, gQ h)
def sJ (h : HS) (f a : Nat) (v : Int64) : HS := (gT h, gI h, va_up (gJ h) f (va_up (gJ h f) a v), gR h, gN h, gA h, gL h, gQ h)
def sR (h : HS) (f a : Nat) (v : Option Nat) : HS := (gT h, gI h, gJ h, va_up (gR h) f (va_up (gR h f) a v), gN h, gA h, gL h, gQ h)
/-- a whole new content of an array -/
def wA (h : HS) (a : Nat) (g : Nat → Int32) : HS := (gT h, gI h, gJ h, gR h, gN h, va_up (gA h) a g, gL h, gQ h)
def wL (h : HS) (a : Nat) (g : Nat → Int64) : HS := (gT h, gI h, gJ h, gR h, gN h, gA h, va_up (gL h) a g, gQ h)
def wQ (h : HS) (a : Nat) (g : Nat → Option Nat) : HS := (gT h, gI h, gJ h, gR h, gN h, gA h, gL h, va_up (gQ h) a g)
/-- one place of an array -/
def sA (h : HS) (a i : Nat) (v : Int32) : HS := wA h a (va_up (gA h a) i v)
def sL (h : HS) (a i : Nat) (v : Int64) : HS := wL h a (va_up (gL h a) i v)
def sQ (h : HS) (a i : Nat) (v : Option Nat) : HS := wQ h a (va_up (gQ h a) i v)
/-- a new address q, of kind t, of length n -/
def nH (h : HS) (q t n : Nat) : HS := (va_up (gT h) q t, fun f => va_up (gI h f) q 0, fun f => va_up (gJ h f) q 0, fun f => va_up (gR h f) q none, va_up (gN h) q n, va_up (gA h) q (fun _ => 0), va_up (gL h) q (fun _ => 0), va_up (gQ h) q (fun _ => none))
def fv (h : HS) (a f kd : Nat) : Value := if kd = 1 then .long (gJ h f a) else if kd = 2 then va_rf (gR h f a) else .int (gI h f a)
def fl (h : HS) (a ci : Nat) : List Value := (lk ci).mapIdx (fun k kd => fv h a (100 * ci + k) kd)
theorem fl_at {h : HS} {a ci k kd : Nat} (hk : (lk ci)[k]? = some kd) : (fl h a ci)[k]? = some (fv h a (100 * ci + k) kd) := by
  simp [fl, List.getElem?_mapIdx, hk]
abbrev CS : Type := ClassId × ClassId × ClassId × ClassId × ClassId
def toE (cs : CS) (h : HS) (a : Nat) : va_E :=
  if gT h a = 1 then .inl (cs.1, gN h a, .inl (gA h a))
  else if gT h a = 2 then .inl (cs.2.1, gN h a, .inl (gA h a))
  else if gT h a = 3 then .inl (cs.2.2.1, gN h a, .inr (.inl (gL h a)))
  else if gT h a = 4 then .inl (cs.2.2.2.1, gN h a, .inr (.inr (.inr (.inr (gQ h a)))))
  else if gT h a = 5 then .inl (cs.2.2.2.2, gN h a, .inr (.inr (.inr (.inr (gQ h a)))))
  else .inr (gT h a - 16, fl h a (gT h a - 16))
theorem toE_1 {cs : CS} {h : HS} {a : Nat} (e : gT h a = 1) : toE cs h a = .inl (cs.1, gN h a, .inl (gA h a)) := by simp [toE, e]
theorem toE_2 {cs : CS} {h : HS} {a : Nat} (e : gT h a = 2) : toE cs h a = .inl (cs.2.1, gN h a, .inl (gA h a)) := by simp [toE, e]
theorem toE_3 {cs : CS} {h : HS} {a : Nat} (e : gT h a = 3) : toE cs h a = .inl (cs.2.2.1, gN h a, .inr (.inl (gL h a))) := by simp [toE, e]
theorem toE_4 {cs : CS} {h : HS} {a : Nat} (e : gT h a = 4) : toE cs h a = .inl (cs.2.2.2.1, gN h a, .inr (.inr (.inr (.inr (gQ h a))))) := by simp [toE, e]
theorem toE_5 {cs : CS} {h : HS} {a : Nat} (e : gT h a = 5) : toE cs h a = .inl (cs.2.2.2.2, gN h a, .inr (.inr (.inr (.inr (gQ h a))))) := by simp [toE, e]
theorem toE_o {cs : CS} {h : HS} {a ci : Nat} (e : gT h a = 16 + ci) : toE cs h a = .inr (ci, fl h a ci) := by
  simp only [toE, e, show (16 + ci) - 16 = ci by omega]
  rw [if_neg (by omega), if_neg (by omega), if_neg (by omega), if_neg (by omega), if_neg (by omega)]
/-- the cell of an address depends on what its own address has -/
theorem toE_congr {cs : CS} {h h' : HS} {a : Nat} (e1 : gT h' a = gT h a) (e2 : ∀ f, gI h' f a = gI h f a) (e3 : ∀ f, gJ h' f a = gJ h f a) (e4 : ∀ f, gR h' f a = gR h f a) (e5 : gN h' a = gN h a) (e6 : gA h' a = gA h a) (e7 : gL h' a = gL h a) (e8 : gQ h' a = gQ h a) : toE cs h' a = toE cs h a := by
  simp only [toE, e1, e5, e6, e7, e8, fl, fv, e2, e3, e4]
theorem fl_set {h h' : HS} {a ci k kd : Nat} {v : Value} (hk : (lk ci)[k]? = some kd) (e1 : fv h' a (100 * ci + k) kd = v) (e2 : ∀ j kd', j ≠ k → fv h' a (100 * ci + j) kd' = fv h a (100 * ci + j) kd') : fl h' a ci = (fl h a ci).set k v := by
  apply List.ext_getElem?
  intro j
  by_cases hj : j = k
  · subst hj
    have hl : j < (fl h a ci).length := by
      simp only [fl, List.length_mapIdx]
      exact (List.getElem?_eq_some_iff.mp hk).1
    rw [List.getElem?_set_self hl, fl_at hk, e1]
  · rw [List.getElem?_set_ne (Ne.symm hj)]
    simp only [fl, List.getElem?_mapIdx]
    cases h9 : (lk ci)[j]? with
    | none => rfl
    | some kd' => simp [e2 j kd' hj]
theorem toE_put {cs : CS} {h h' : HS} {a ci k kd : Nat} {v : Value} (ht : gT h a = 16 + ci) (hk : (lk ci)[k]? = some kd) (eT : gT h' = gT h) (e1 : fv h' a (100 * ci + k) kd = v) (e2 : ∀ j kd', j ≠ k → fv h' a (100 * ci + j) kd' = fv h a (100 * ci + j) kd') (e3 : ∀ b, b ≠ a → toE cs h' b = toE cs h b) : toE cs h' = va_up (toE cs h) a (.inr (ci, (fl h a ci).set k v)) := by
  funext b
  by_cases hb : b = a
  · subst hb
    rw [va_up_self, toE_o (ci := ci) (by rw [eT]; exact ht), fl_set hk e1 e2]
  · rw [va_up_ne _ _ hb, e3 b hb]
theorem toE_sI {cs : CS} {h : HS} {a ci k : Nat} {v : Int32} (ht : gT h a = 16 + ci) (hk : (lk ci)[k]? = some 0) : toE cs (sI h (100 * ci + k) a v) = va_up (toE cs h) a (.inr (ci, (fl h a ci).set k (.int v))) := by
  refine toE_put ht hk rfl ?_ ?_ ?_
  · simp [fv, gI, sI, va_up]
  · intro j kd' hj
    have : ¬ (100 * ci + j = 100 * ci + k) := by omega
    simp only [fv]
    simp [gI, gJ, gR, sI, va_up, hj]
  · intro b hb
    refine toE_congr rfl (fun f => ?_) (fun _ => rfl) (fun _ => rfl) rfl rfl rfl rfl
    by_cases e : f = 100 * ci + k <;> simp [gI, sI, va_up, e, hb]
theorem toE_sJ {cs : CS} {h : HS} {a ci k : Nat} {v : Int64} (ht : gT h a = 16 + ci) (hk : (lk ci)[k]? = some 1) : toE cs (sJ h (100 * ci + k) a v) = va_up (toE cs h) a (.inr (ci, (fl h a ci).set k (.long v))) := by
  refine toE_put ht hk rfl ?_ ?_ ?_
  · simp [fv, gJ, sJ, va_up]
  · intro j kd' hj
    simp only [fv]
    simp [gI, gJ, gR, sJ, va_up, hj]
  · intro b hb
    refine toE_congr rfl (fun _ => rfl) (fun f => ?_) (fun _ => rfl) rfl rfl rfl rfl
    by_cases e : f = 100 * ci + k <;> simp [gJ, sJ, va_up, e, hb]
theorem toE_sR {cs : CS} {h : HS} {a ci k : Nat} {v : Option Nat} (ht : gT h a = 16 + ci) (hk : (lk ci)[k]? = some 2) : toE cs (sR h (100 * ci + k) a v) = va_up (toE cs h) a (.inr (ci, (fl h a ci).set k (va_rf v))) := by
  refine toE_put ht hk rfl ?_ ?_ ?_
  · simp [fv, gR, sR, va_up]
  · intro j kd' hj
    simp only [fv]
    simp [gI, gJ, gR, sR, va_up, hj]
  · intro b hb
    refine toE_congr rfl (fun _ => rfl) (fun _ => rfl) (fun f => ?_) rfl rfl rfl rfl
    by_cases e : f = 100 * ci + k <;> simp [gR, sR, va_up, e, hb]
theorem toE_wA {cs : CS} {h : HS} {a : Nat} {g : Nat → Int32} {x : va_E} (hx : toE cs (wA h a g) a = x) : toE cs (wA h a g) = va_up (toE cs h) a x := by
  funext b
  by_cases hb : b = a
  · subst hb; rw [va_up_self, hx]
  · rw [va_up_ne _ _ hb]
    exact toE_congr rfl (fun _ => rfl) (fun _ => rfl) (fun _ => rfl) rfl (by simp [gA, wA, va_up, hb]) rfl rfl
theorem toE_wL {cs : CS} {h : HS} {a : Nat} {g : Nat → Int64} {x : va_E} (hx : toE cs (wL h a g) a = x) : toE cs (wL h a g) = va_up (toE cs h) a x := by
  funext b
  by_cases hb : b = a
  · subst hb; rw [va_up_self, hx]
  · rw [va_up_ne _ _ hb]
    exact toE_congr rfl (fun _ => rfl) (fun _ => rfl) (fun _ => rfl) rfl rfl (by simp [gL, wL, va_up, hb]) rfl
theorem toE_wQ {cs : CS} {h : HS} {a : Nat} {g : Nat → Option Nat} {x : va_E} (hx : toE cs (wQ h a g) a = x) : toE cs (wQ h a g) = va_up (toE cs h) a x := by
  funext b
  by_cases hb : b = a
  · subst hb; rw [va_up_self, hx]
  · rw [va_up_ne _ _ hb]
    exact toE_congr rfl (fun _ => rfl) (fun _ => rfl) (fun _ => rfl) rfl rfl rfl (by simp [gQ, wQ, va_up, hb])
theorem toE_nH {cs : CS} {h : HS} {q t n : Nat} {x : va_E} (hx : toE cs (nH h q t n) q = x) : toE cs (nH h q t n) = va_up (toE cs h) q x := by
  funext b
  by_cases hb : b = q
  · subst hb; rw [va_up_self, hx]
  · rw [va_up_ne _ _ hb]
    exact toE_congr (by simp [gT, nH, va_up, hb]) (fun _ => by simp [gI, nH, va_up, hb]) (fun _ => by simp [gJ, nH, va_up, hb]) (fun _ => by simp [gR, nH, va_up, hb]) (by simp [gN, nH, va_up, hb]) (by simp [gA, nH, va_up, hb]) (by simp [gL, nH, va_up, hb]) (by simp [gQ, nH, va_up, hb])
theorem gA_wA (h : HS) (a : Nat) (g : Nat → Int32) : gA (wA h a g) a = g := by simp [gA, wA, va_up]
theorem gL_wL (h : HS) (a : Nat) (g : Nat → Int64) : gL (wL h a g) a = g := by simp [gL, wL, va_up]
theorem gQ_wQ (h : HS) (a : Nat) (g : Nat → Option Nat) : gQ (wQ h a g) a = g := by simp [gQ, wQ, va_up]
theorem gT_nH (h : HS) (q t n : Nat) : gT (nH h q t n) q = t := by simp [gT, nH, va_up]
/-! THE MACHINE's HEAP HOLDS A PURE ONE -/
def mP (D : va_G) (cs : CS) (A : Nat → Prop) (h : HS) (H : Heap) : Prop := ∃ L : List Nat, (∀ a, a ∈ L ↔ gT h a ≠ 0) ∧ va_P D vcl ([] ++ va_pl L (toE cs h)) H ∧ va_D A ([] ++ va_pl L (toE cs h))
def mR (D : va_G) (cs : CS) (A : Nat → Prop) (h : HS) (H0 H : Heap) (locs : List Loc) : Prop := mP D cs A h H ∧ va_S A H0 H locs
def mtys (cs : CS) : List (ClassId × FieldType) := [(cs.1, .int), (cs.2.1, .boolean), (cs.2.2.1, .long), (cs.2.2.2.1, .object "java/lang/Object"), (cs.2.2.2.2, .array .int)]
theorem mP.at {D : va_G} {cs : CS} {A : Nat → Prop} {h : HS} {H : Heap} (hP : mP D cs A h H) {a : Nat} (ht : gT h a ≠ 0) : va_at D vcl (a, toE cs h a) H ∧ A a := by
  obtain ⟨L, hL, hP, hD⟩ := hP
  obtain ⟨k, hk⟩ := va_pl_get (X := []) (f := toE cs h) ((hL a).mpr ht)
  exact ⟨hP k _ hk, hD.2 k _ hk⟩
/-- a cell is written -/
theorem mP.put {D : va_G} {cs : CS} {A : Nat → Prop} {h h' : HS} {H1 : Heap} {L : List Nat} {k a : Nat} {x : va_E} (hL : ∀ a, a ∈ L ↔ gT h a ≠ 0) (hD : va_D A ([] ++ va_pl L (toE cs h))) (hk : ([] ++ va_pl L (toE cs h))[k]? = some (a, toE cs h a)) (hm : a ∈ L) (eT : gT h' = gT h) (e : toE cs h' = va_up (toE cs h) a x) (hP1 : va_P D vcl (([] ++ va_pl L (toE cs h)).set k (a, x)) H1) (hD1 : va_D A (([] ++ va_pl L (toE cs h)).set k (a, x))) : mP D cs A h' H1 := by
  rw [va_pl_set hD hm hk] at hP1 hD1
  exact ⟨L, fun b => by rw [eT]; exact hL b, by rw [e]; exact hP1, by rw [e]; exact hD1⟩
/-- a cell is made -/
theorem mP.new {D : va_G} {cs : CS} {A : Nat → Prop} {h : HS} {H1 : Heap} {L : List Nat} {q t n : Nat} {x : va_E} (hL : ∀ a, a ∈ L ↔ gT h a ≠ 0) (ht : t ≠ 0) (hx : toE cs (nH h q t n) q = x) (hP1 : va_P D vcl (([] ++ va_pl L (toE cs h)) ++ [(q, x)]) H1) (hD1 : va_D A (([] ++ va_pl L (toE cs h)) ++ [(q, x)])) : mP D cs A (nH h q t n) H1 ∧ gT h q = 0 := by
  have hq : q ∉ L := va_pl_fresh2 hD1
  have h0 : gT h q = 0 := Classical.byContradiction fun z => hq ((hL q).mpr z)
  refine ⟨⟨L ++ [q], fun b => ?_, ?_, ?_⟩, h0⟩
  · rw [List.mem_append, List.mem_singleton, hL b]
    by_cases hb : b = q
    · subst hb; simp [gT_nH, ht]
    · simp [gT, nH, va_up, hb]
  · rw [toE_nH hx]
    rw [List.nil_append, va_pl_push hq] at hP1
    exact hP1
  · rw [toE_nH hx]
    rw [List.nil_append, va_pl_push hq] at hD1
    exact hD1
end
section
/-! ROWS OVER PURE HEAPS, an instruction each -/
section MXA
variable {p : Program} {l : Launch} {e : Env} {R : Room} {s : State} {m : MethodId} {args : Array Value} {below : List Frame} {meth : Method} {c : Code} {H : Heap} {locs : List Loc} {cells slots : Nat} {Q : State → Prop}
variable {cc : ByteArray} {pc : Nat} {ls : Array Slot} {rest : List Value} {D : va_G} {cs : CS} {A : Nat → Prop} {h : HS} {H0 : Heap} {r : Option Nat} {a : Nat}
theorem mx_get (hx : p.tables.exec = Jvm.exec) (hb : c.code = cc) (hW : ∀ w ∈ WA, w.before args s = true) {own ref C : String} {T : u_T} {N ci index : Nat} (hown : s.vm.findClass own = some m.cls) (hK : va_K D vcl (mtys cs) s) (hR : mR D cs A h H0 H locs) (er : r = some a) (ht : gT h a = 16 + ci) (hc : vcl[ci]? = some (C, T, N)) (hin : ∀ w ∈ u_ws C T N, w ∈ WA) (k kd : Nat) (hk : k < N) (hkd : (lk ci)[k]? = some kd) (hlink : Cond.fieldLink own index ref (T k).2.1 (T k).2.2.1 ∈ WA) (hsame : ∀ x, s.fieldFound? (T k).1 (T k).2.1 (T k).2.2.1 = some x → s.fieldFound? ref (T k).2.1 (T k).2.2.1 = some x) (hdg : decode cc pc = .ok (.getfield index, 3))
    (kk : W p l e R s m args below meth c H locs cells slots Q (F0 m (pc + 3) ls (fv h a (100 * ci + k) kd :: rest))) : W p l e R s m args below meth c H locs cells slots Q (F0 m pc ls (va_rf r :: rest)) := by
  subst er
  obtain ⟨⟨L, hL, hP, hD⟩, hS⟩ := hR
  obtain ⟨q0, hq⟩ := va_pl_get (X := []) (f := toE cs h) ((hL a).mpr (by rw [ht]; omega))
  rw [toE_o ht] at hq
  exact va_get hx hb hW hin hown hK hP q0 hq hc k hk (hW _ hlink) hsame (fl_at hkd) hdg kk
theorem mx_put (hx : p.tables.exec = Jvm.exec) (hb : c.code = cc) (hW : ∀ w ∈ WA, w.before args s = true) {own ref C : String} {T : u_T} {N ci index : Nat} (hown : s.vm.findClass own = some m.cls) (hK : va_K D vcl (mtys cs) s) (hR : mR D cs A h H0 H locs) (er : r = some a) (ht : gT h a = 16 + ci) (hc : vcl[ci]? = some (C, T, N)) (hin : ∀ w ∈ u_ws C T N, w ∈ WA) (ty0 : Nat → FieldType) (hty : ∀ k, k < N → parseFieldDescriptor (T k).2.2.1 = some (ty0 k)) (hnm : ∀ a, a < N → ∀ b, b < N → a ≠ b → (T a).2.1 ≠ (T b).2.1) (k kd : Nat) (hk : k < N) (hkd : (lk ci)[k]? = some kd) (hlink : Cond.fieldLink own index ref (T k).2.1 (T k).2.2.1 ∈ WA) (hsame : ∀ x, s.fieldFound? (T k).1 (T k).2.1 (T k).2.2.1 = some x → s.fieldFound? ref (T k).2.1 (T k).2.2.1 = some x) (hfin : (T k).2.2.2 = false) {v : Value} (hn : narrow (ty0 k) v = v) (hfit : fits (ty0 k) v = true) (hdg : decode cc pc = .ok (.putfield index, 3)) {h' : HS} (eT : gT h' = gT h) (e' : toE cs h' = va_up (toE cs h) a (.inr (ci, (fl h a ci).set k v)))
    (kk : ∀ (H1 : Heap) (locs1 : List Loc), mR D cs A h' H0 H1 locs1 → W p l e R s m args below meth c H1 locs1 cells slots Q (F0 m (pc + 3) ls rest)) : W p l e R s m args below meth c H locs cells slots Q (F0 m pc ls (v :: va_rf r :: rest)) := by
  subst er
  obtain ⟨⟨L, hL, hP, hD⟩, hS⟩ := hR
  have hm : a ∈ L := (hL a).mpr (by rw [ht]; omega)
  obtain ⟨q0, hq⟩ := va_pl_get (X := []) (f := toE cs h) hm
  have hq' := hq
  rw [toE_o ht] at hq'
  have hl : k < (fl h a ci).length := by
    simp only [fl, List.length_mapIdx]
    exact (List.getElem?_eq_some_iff.mp hkd).1
  exact va_put hx hb hW hin ty0 hty hnm hown hK hP hD hS q0 hq' hc k hk (hW _ hlink) hsame hfin (hty k hk) hn hfit hl hdg fun H1 locs1 hP1 hD1 hS1 => kk H1 locs1 ⟨mP.put hL hD hq hm eT e' hP1 hD1, hS1⟩
theorem mx_putF (hx : p.tables.exec = Jvm.exec) (hb : c.code = cc) (hW : ∀ w ∈ WA, w.before args s = true) {own ref C : String} {T : u_T} {N ci index : Nat} (hown : s.vm.findClass own = some m.cls) (hK : va_K D vcl (mtys cs) s) (hR : mR D cs A h H0 H locs) (er : r = some a) (ht : gT h a = 16 + ci) (hc : vcl[ci]? = some (C, T, N)) (hin : ∀ w ∈ u_ws C T N, w ∈ WA) (ty0 : Nat → FieldType) (hty : ∀ k, k < N → parseFieldDescriptor (T k).2.2.1 = some (ty0 k)) (hnm : ∀ a, a < N → ∀ b, b < N → a ≠ b → (T a).2.1 ≠ (T b).2.1) (k kd : Nat) (hk : k < N) (hkd : (lk ci)[k]? = some kd) (hlink : Cond.fieldLink own index ref (T k).2.1 (T k).2.2.1 ∈ WA) (hsame : ∀ x, s.fieldFound? (T k).1 (T k).2.1 (T k).2.2.1 = some x → s.fieldFound? ref (T k).2.1 (T k).2.2.1 = some x) (hfin : (T k).2.2.2 = true) (hin2 : meth.name = "<init>") (hdecl : (T k).1 = own) {v : Value} (hn : narrow (ty0 k) v = v) (hfit : fits (ty0 k) v = true) (hdg : decode cc pc = .ok (.putfield index, 3)) {h' : HS} (eT : gT h' = gT h) (e' : toE cs h' = va_up (toE cs h) a (.inr (ci, (fl h a ci).set k v)))
    (kk : ∀ (H1 : Heap) (locs1 : List Loc), mR D cs A h' H0 H1 locs1 → W p l e R s m args below meth c H1 locs1 cells slots Q (F0 m (pc + 3) ls rest)) : W p l e R s m args below meth c H locs cells slots Q (F0 m pc ls (v :: va_rf r :: rest)) := by
  subst er
  obtain ⟨⟨L, hL, hP, hD⟩, hS⟩ := hR
  have hm : a ∈ L := (hL a).mpr (by rw [ht]; omega)
  obtain ⟨q0, hq⟩ := va_pl_get (X := []) (f := toE cs h) hm
  have hq' := hq
  rw [toE_o ht] at hq'
  have hl : k < (fl h a ci).length := by
    simp only [fl, List.length_mapIdx]
    exact (List.getElem?_eq_some_iff.mp hkd).1
  exact va_putF hx hb hW hin ty0 hty hnm hown hK hP hD hS q0 hq' hc k hk (hW _ hlink) hsame hfin hin2 hdecl (hty k hk) hn hfit hl hdg fun H1 locs1 hP1 hD1 hS1 => kk H1 locs1 ⟨mP.put hL hD hq hm eT e' hP1 hD1, hS1⟩
theorem mx_rf_n (t : FieldType) (h : t.isReference = true) (v : Option Nat) : narrow t (va_rf v) = va_rf v ∧ fits t (va_rf v) = true := by
  cases t <;> first | (cases v <;> exact ⟨rfl, rfl⟩) | (exact absurd h (by decide))
theorem mx_z_n {x : Int32} (h : x = 0 ∨ x = 1) : narrow .boolean (.int x) = .int x ∧ fits .boolean (.int x) = true := by
  rcases h with rfl | rfl <;> exact ⟨by decide +kernel, by decide +kernel⟩
/-! arrays -/
theorem mx_iald (hx : p.tables.exec = Jvm.exec) (hb : c.code = cc) (hK : va_K D vcl (mtys cs) s) (hR : mR D cs A h H0 H locs) (er : r = some a) (ht : gT h a = 1) {i : Int32} (hin : vp_in i (gN h a)) (hdg : decode cc pc = .ok (.iaload, 1))
    (kk : W p l e R s m args below meth c H locs cells slots Q (F0 m (pc + 1) ls (.int (gA h a i.toNatClampNeg) :: rest))) : W p l e R s m args below meth c H locs cells slots Q (F0 m pc ls (.int i :: va_rf r :: rest)) := by
  subst er
  obtain ⟨⟨L, hL, hP, hD⟩, hS⟩ := hR
  obtain ⟨q0, hq⟩ := va_pl_get (X := []) (f := toE cs h) ((hL a).mpr (by rw [ht]; omega))
  rw [toE_1 ht] at hq
  exact va_iald hx hb hK hP q0 0 hq rfl hin hdg kk
theorem mx_zald (hx : p.tables.exec = Jvm.exec) (hb : c.code = cc) (hK : va_K D vcl (mtys cs) s) (hR : mR D cs A h H0 H locs) (er : r = some a) (ht : gT h a = 2) {i : Int32} (hin : vp_in i (gN h a)) (hdg : decode cc pc = .ok (.baload, 1))
    (kk : W p l e R s m args below meth c H locs cells slots Q (F0 m (pc + 1) ls (.int (gA h a i.toNatClampNeg) :: rest))) : W p l e R s m args below meth c H locs cells slots Q (F0 m pc ls (.int i :: va_rf r :: rest)) := by
  subst er
  obtain ⟨⟨L, hL, hP, hD⟩, hS⟩ := hR
  obtain ⟨q0, hq⟩ := va_pl_get (X := []) (f := toE cs h) ((hL a).mpr (by rw [ht]; omega))
  rw [toE_2 ht] at hq
  exact va_zald hx hb hK hP q0 1 hq rfl hin hdg kk
theorem mx_lald (hx : p.tables.exec = Jvm.exec) (hb : c.code = cc) (hK : va_K D vcl (mtys cs) s) (hR : mR D cs A h H0 H locs) (er : r = some a) (ht : gT h a = 3) {i : Int32} (hin : vp_in i (gN h a)) (hdg : decode cc pc = .ok (.laload, 1))
    (kk : W p l e R s m args below meth c H locs cells slots Q (F0 m (pc + 1) ls (.long (gL h a i.toNatClampNeg) :: rest))) : W p l e R s m args below meth c H locs cells slots Q (F0 m pc ls (.int i :: va_rf r :: rest)) := by
  subst er
  obtain ⟨⟨L, hL, hP, hD⟩, hS⟩ := hR
  obtain ⟨q0, hq⟩ := va_pl_get (X := []) (f := toE cs h) ((hL a).mpr (by rw [ht]; omega))
  rw [toE_3 ht] at hq
  exact va_lald hx hb hK hP q0 2 hq rfl hin hdg kk
theorem mx_oald (hx : p.tables.exec = Jvm.exec) (hb : c.code = cc) (hK : va_K D vcl (mtys cs) s) (hR : mR D cs A h H0 H locs) (er : r = some a) (ht : gT h a = 4) {i : Int32} (hin : vp_in i (gN h a)) (hdg : decode cc pc = .ok (.aaload, 1))
    (kk : W p l e R s m args below meth c H locs cells slots Q (F0 m (pc + 1) ls (va_rf (gQ h a i.toNatClampNeg) :: rest))) : W p l e R s m args below meth c H locs cells slots Q (F0 m pc ls (.int i :: va_rf r :: rest)) := by
  subst er
  obtain ⟨⟨L, hL, hP, hD⟩, hS⟩ := hR
  obtain ⟨q0, hq⟩ := va_pl_get (X := []) (f := toE cs h) ((hL a).mpr (by rw [ht]; omega))
  rw [toE_4 ht] at hq
  exact va_aldq hx hb hK hP q0 3 hq rfl hin hdg kk
theorem mx_rald (hx : p.tables.exec = Jvm.exec) (hb : c.code = cc) (hK : va_K D vcl (mtys cs) s) (hR : mR D cs A h H0 H locs) (er : r = some a) (ht : gT h a = 5) {i : Int32} (hin : vp_in i (gN h a)) (hdg : decode cc pc = .ok (.aaload, 1))
    (kk : W p l e R s m args below meth c H locs cells slots Q (F0 m (pc + 1) ls (va_rf (gQ h a i.toNatClampNeg) :: rest))) : W p l e R s m args below meth c H locs cells slots Q (F0 m pc ls (.int i :: va_rf r :: rest)) := by
  subst er
  obtain ⟨⟨L, hL, hP, hD⟩, hS⟩ := hR
  obtain ⟨q0, hq⟩ := va_pl_get (X := []) (f := toE cs h) ((hL a).mpr (by rw [ht]; omega))
  rw [toE_5 ht] at hq
  have hlt : i.toNatClampNeg < gN h a := Nat.not_le.mp fun q => hin (Or.inr q)
  exact W.aald (v := va_rf (gQ h a i.toNatClampNeg)) (ty := .array .int) hx hb (hP q0 _ hq) ((hK.2 4 (cs.2.2.2.2, .array .int) rfl).1 (gN h a) (fun j => va_rf (gQ h a j))) rfl (fun q => by cases q) (by show ¬ (i < 0 ∨ (arrV _ _ _).slots.size ≤ _); rw [arrV_size]; exact hin) (by show (arrV _ _ _).slots[_]? = _; rw [arrV_read _ _ hlt]) rfl rfl hdg kk
theorem mx_alen (hx : p.tables.exec = Jvm.exec) (hb : c.code = cc) (hK : va_K D vcl (mtys cs) s) (hR : mR D cs A h H0 H locs) (er : r = some a) (ht : gT h a ≠ 0) (ht2 : gT h a < 6) (hdg : decode cc pc = .ok (.arraylength, 1))
    (kk : W p l e R s m args below meth c H locs cells slots Q (F0 m (pc + 1) ls (.int (nI (gN h a)) :: rest))) : W p l e R s m args below meth c H locs cells slots Q (F0 m pc ls (va_rf r :: rest)) := by
  subst er
  obtain ⟨⟨L, hL, hP, hD⟩, hS⟩ := hR
  obtain ⟨q0, hq⟩ := va_pl_get (X := []) (f := toE cs h) ((hL a).mpr ht)
  rcases (show gT h a = 1 ∨ gT h a = 2 ∨ gT h a = 3 ∨ gT h a = 4 ∨ gT h a = 5 by omega) with z | z | z | z | z
  · rw [toE_1 z] at hq
    exact va_alen hx hb hK hP q0 0 hq rfl rfl hdg kk
  · rw [toE_2 z] at hq
    exact va_alen hx hb hK hP q0 1 hq rfl rfl hdg kk
  · rw [toE_3 z] at hq
    exact va_alen hx hb hK hP q0 2 hq rfl rfl hdg kk
  · rw [toE_4 z] at hq
    exact va_alen hx hb hK hP q0 3 hq rfl rfl hdg kk
  · rw [toE_5 z] at hq
    exact va_alen hx hb hK hP q0 4 hq rfl rfl hdg kk
theorem mx_iast (hx : p.tables.exec = Jvm.exec) (hb : c.code = cc) (hK : va_K D vcl (mtys cs) s) (hR : mR D cs A h H0 H locs) (er : r = some a) (ht : gT h a = 1) {i x : Int32} (hin : vp_in i (gN h a)) (hdg : decode cc pc = .ok (.iastore, 1))
    (kk : ∀ (H1 : Heap) (locs1 : List Loc), mR D cs A (sA h a i.toNatClampNeg x) H0 H1 locs1 → W p l e R s m args below meth c H1 locs1 cells slots Q (F0 m (pc + 1) ls rest)) : W p l e R s m args below meth c H locs cells slots Q (F0 m pc ls (.int x :: .int i :: va_rf r :: rest)) := by
  subst er
  obtain ⟨⟨L, hL, hP, hD⟩, hS⟩ := hR
  have hm : a ∈ L := (hL a).mpr (by rw [ht]; omega)
  obtain ⟨q0, hq⟩ := va_pl_get (X := []) (f := toE cs h) hm
  have hq' := hq
  rw [toE_1 ht] at hq'
  exact va_iast hx hb hK hP hD hS q0 0 hq' rfl hin hdg fun H1 locs1 hP1 hD1 hS1 => kk H1 locs1 ⟨mP.put hL hD hq hm rfl (toE_wA (by rw [toE_1 (by exact ht), gA_wA]; rfl)) hP1 hD1, hS1⟩
theorem mx_zast (hx : p.tables.exec = Jvm.exec) (hb : c.code = cc) (hK : va_K D vcl (mtys cs) s) (hR : mR D cs A h H0 H locs) (er : r = some a) (ht : gT h a = 2) {i x : Int32} (hz : x = 0 ∨ x = 1) (hin : vp_in i (gN h a)) (hdg : decode cc pc = .ok (.bastore, 1))
    (kk : ∀ (H1 : Heap) (locs1 : List Loc), mR D cs A (sA h a i.toNatClampNeg x) H0 H1 locs1 → W p l e R s m args below meth c H1 locs1 cells slots Q (F0 m (pc + 1) ls rest)) : W p l e R s m args below meth c H locs cells slots Q (F0 m pc ls (.int x :: .int i :: va_rf r :: rest)) := by
  subst er
  obtain ⟨⟨L, hL, hP, hD⟩, hS⟩ := hR
  have hm : a ∈ L := (hL a).mpr (by rw [ht]; omega)
  obtain ⟨q0, hq⟩ := va_pl_get (X := []) (f := toE cs h) hm
  have hq' := hq
  rw [toE_2 ht] at hq'
  have hv : vp_nar .boolean x = x := by simp only [vp_nar, (mx_z_n hz).1]
  refine va_zast hx hb hK hP hD hS q0 1 hq' rfl hin hdg fun H1 locs1 hP1 hD1 hS1 => kk H1 locs1 ⟨mP.put hL hD hq hm rfl (toE_wA (by rw [toE_2 (by exact ht), gA_wA]; try rfl)) (by rw [hv] at hP1; exact hP1) (by rw [hv] at hD1; exact hD1), hS1⟩
theorem mx_last (hx : p.tables.exec = Jvm.exec) (hb : c.code = cc) (hK : va_K D vcl (mtys cs) s) (hR : mR D cs A h H0 H locs) (er : r = some a) (ht : gT h a = 3) {i : Int32} {x : Int64} (hin : vp_in i (gN h a)) (hdg : decode cc pc = .ok (.lastore, 1))
    (kk : ∀ (H1 : Heap) (locs1 : List Loc), mR D cs A (sL h a i.toNatClampNeg x) H0 H1 locs1 → W p l e R s m args below meth c H1 locs1 cells slots Q (F0 m (pc + 1) ls rest)) : W p l e R s m args below meth c H locs cells slots Q (F0 m pc ls (.long x :: .int i :: va_rf r :: rest)) := by
  subst er
  obtain ⟨⟨L, hL, hP, hD⟩, hS⟩ := hR
  have hm : a ∈ L := (hL a).mpr (by rw [ht]; omega)
  obtain ⟨q0, hq⟩ := va_pl_get (X := []) (f := toE cs h) hm
  have hq' := hq
  rw [toE_3 ht] at hq'
  exact va_last hx hb hK hP hD hS q0 2 hq' rfl hin hdg fun H1 locs1 hP1 hD1 hS1 => kk H1 locs1 ⟨mP.put hL hD hq hm rfl (toE_wL (by rw [toE_3 (by exact ht), gL_wL]; rfl)) hP1 hD1, hS1⟩
/-! new objects and arrays -/
theorem mx_new (hx : p.tables.exec = Jvm.exec) (hb : c.code = cc) (hW : ∀ w ∈ WA, w.before args s = true) {own C : String} {T : u_T} {N ci index : Nat} (hown : s.vm.findClass own = some m.cls) (hK : va_K D vcl (mtys cs) s) (hR : mR D cs A h H0 H locs) (hA : ∀ q, H0.size ≤ q → A q) (hc : vcl[ci]? = some (C, T, N)) (hin : ∀ w ∈ u_ws C T N, w ∈ WA) (ty : Nat → FieldType) (hty : ∀ k, k < N → parseFieldDescriptor (T k).2.2.1 = some (ty k)) (hcl : Cond.classLink own index C ∈ WA) (hinst : Cond.instantiable C N ∈ WA) (hini : Cond.initialized C ∈ WA) (hfs : ∀ (q j : Nat), j < N → defaultValue (ty j) = vp_V (fl (nH h q (16 + ci) 0) q ci) j) (hcells : cells + 1 ≤ R.cells) (hslots : slots + N ≤ R.slots) (hdg : decode cc pc = .ok (.new index, 3))
    (kk : ∀ (q : Nat) (H1 : Heap), gT h q = 0 → mR D cs A (nH h q (16 + ci) 0) H0 H1 locs → W p l e R s m args below meth c H1 locs (cells + 1) (slots + N) Q (F0 m (pc + 3) ls (va_rf (some q) :: rest))) : W p l e R s m args below meth c H locs cells slots Q (F0 m pc ls rest) := by
  obtain ⟨⟨L, hL, hP, hD⟩, hS⟩ := hR
  refine va_new (fs := fl (nH h H.size (16 + ci) 0) H.size ci) hx hb hW hin ty hty hown (hW _ hcl) (hW _ hinst) (hW _ hini) hK hP hD hS hA hc (fun j hj => hfs H.size j hj) hcells hslots hdg fun q H1 hP1 hD1 hS1 => ?_
  have hfl : fl (nH h H.size (16 + ci) 0) H.size ci = fl (nH h q (16 + ci) 0) q ci := by
    simp only [fl, fv]
    simp [gI, gJ, gR, nH, va_up]
  rw [hfl] at hP1 hD1
  obtain ⟨h1, h2⟩ := mP.new (t := 16 + ci) (n := 0) hL (by omega) (toE_o (gT_nH h q (16 + ci) 0)) hP1 hD1
  exact kk q H1 h2 ⟨h1, hS1⟩
theorem mx_arr_i (hx : p.tables.exec = Jvm.exec) (hb : c.code = cc) (hW : ∀ w ∈ WA, w.before args s = true) (hK : va_K D vcl (mtys cs) s) (hR : mR D cs A h H0 H locs) (hA : ∀ q, H0.size ≤ q → A q) (harr : Cond.arrayClass .int ∈ WA) {n : Int32} {N' : Nat} (hn : ¬ n < 0) (hN : n.toNatClampNeg = N') (hbytes : N' ≤ 100000) (hcells : cells + 1 ≤ R.cells) (hslots : slots + N' ≤ R.slots) (hdg : decode cc pc = .ok (.newarray .int, 2))
    (kk : ∀ (q : Nat) (H1 : Heap), gT h q = 0 → mR D cs A (nH h q 1 N') H0 H1 locs → W p l e R s m args below meth c H1 locs (cells + 1) (slots + N') Q (F0 m (pc + 2) ls (va_rf (some q) :: rest))) : W p l e R s m args below meth c H locs cells slots Q (F0 m pc ls (.int n :: rest)) := by
  obtain ⟨⟨L, hL, hP, hD⟩, hS⟩ := hR
  refine va_newa (atype := .int) (ty := .int) (a0 := (N', .inl (fun _ => 0))) hx hb (hW _ harr) rfl hK hP hD hS hA (fun cA => rfl) hn hN (by simp only [componentBytes]; omega) hcells hslots hdg fun q cA H1 hK1 hP1 hD1 hS1 => ?_
  have e1 : cA = cs.1 := by
    have a1 : s.vm.findClass ("[" ++ FieldType.int.toString) = some cA := (hK1.2 5 (cA, .int) rfl).2
    have a2 : s.vm.findClass ("[" ++ FieldType.int.toString) = some cs.1 := (hK.2 0 (cs.1, .int) rfl).2
    exact Option.some.inj (a1.symm.trans a2)
  subst e1
  obtain ⟨h1, h2⟩ := mP.new (t := 1) (n := N') hL (by omega) (by rw [toE_1 (gT_nH h q 1 N')]; simp [gN, gA, nH, va_up]) hP1 hD1
  exact kk q H1 h2 ⟨h1, hS1⟩
theorem mx_arr_z (hx : p.tables.exec = Jvm.exec) (hb : c.code = cc) (hW : ∀ w ∈ WA, w.before args s = true) (hK : va_K D vcl (mtys cs) s) (hR : mR D cs A h H0 H locs) (hA : ∀ q, H0.size ≤ q → A q) (harr : Cond.arrayClass .boolean ∈ WA) {n : Int32} {N' : Nat} (hn : ¬ n < 0) (hN : n.toNatClampNeg = N') (hbytes : N' ≤ 100000) (hcells : cells + 1 ≤ R.cells) (hslots : slots + N' ≤ R.slots) (hdg : decode cc pc = .ok (.newarray .boolean, 2))
    (kk : ∀ (q : Nat) (H1 : Heap), gT h q = 0 → mR D cs A (nH h q 2 N') H0 H1 locs → W p l e R s m args below meth c H1 locs (cells + 1) (slots + N') Q (F0 m (pc + 2) ls (va_rf (some q) :: rest))) : W p l e R s m args below meth c H locs cells slots Q (F0 m pc ls (.int n :: rest)) := by
  obtain ⟨⟨L, hL, hP, hD⟩, hS⟩ := hR
  refine va_newa (atype := .boolean) (ty := .boolean) (a0 := (N', .inl (fun _ => 0))) hx hb (hW _ harr) rfl hK hP hD hS hA (fun cA => rfl) hn hN (by simp only [componentBytes]; omega) hcells hslots hdg fun q cA H1 hK1 hP1 hD1 hS1 => ?_
  have e1 : cA = cs.2.1 := by
    have a1 : s.vm.findClass ("[" ++ FieldType.boolean.toString) = some cA := (hK1.2 5 (cA, .boolean) rfl).2
    have a2 : s.vm.findClass ("[" ++ FieldType.boolean.toString) = some cs.2.1 := (hK.2 1 (cs.2.1, .boolean) rfl).2
    exact Option.some.inj (a1.symm.trans a2)
  subst e1
  obtain ⟨h1, h2⟩ := mP.new (t := 2) (n := N') hL (by omega) (by rw [toE_2 (gT_nH h q 2 N')]; simp [gN, gA, nH, va_up]) hP1 hD1
  exact kk q H1 h2 ⟨h1, hS1⟩
theorem mx_arr_l (hx : p.tables.exec = Jvm.exec) (hb : c.code = cc) (hW : ∀ w ∈ WA, w.before args s = true) (hK : va_K D vcl (mtys cs) s) (hR : mR D cs A h H0 H locs) (hA : ∀ q, H0.size ≤ q → A q) (harr : Cond.arrayClass .long ∈ WA) {n : Int32} {N' : Nat} (hn : ¬ n < 0) (hN : n.toNatClampNeg = N') (hbytes : N' ≤ 100000) (hcells : cells + 1 ≤ R.cells) (hslots : slots + N' ≤ R.slots) (hdg : decode cc pc = .ok (.newarray .long, 2))
    (kk : ∀ (q : Nat) (H1 : Heap), gT h q = 0 → mR D cs A (nH h q 3 N') H0 H1 locs → W p l e R s m args below meth c H1 locs (cells + 1) (slots + N') Q (F0 m (pc + 2) ls (va_rf (some q) :: rest))) : W p l e R s m args below meth c H locs cells slots Q (F0 m pc ls (.int n :: rest)) := by
  obtain ⟨⟨L, hL, hP, hD⟩, hS⟩ := hR
  refine va_newa (atype := .long) (ty := .long) (a0 := (N', .inr (.inl (fun _ => 0)))) hx hb (hW _ harr) rfl hK hP hD hS hA (fun cA => rfl) hn hN (by simp only [componentBytes]; omega) hcells hslots hdg fun q cA H1 hK1 hP1 hD1 hS1 => ?_
  have e1 : cA = cs.2.2.1 := by
    have a1 : s.vm.findClass ("[" ++ FieldType.long.toString) = some cA := (hK1.2 5 (cA, .long) rfl).2
    have a2 : s.vm.findClass ("[" ++ FieldType.long.toString) = some cs.2.2.1 := (hK.2 2 (cs.2.2.1, .long) rfl).2
    exact Option.some.inj (a1.symm.trans a2)
  subst e1
  obtain ⟨h1, h2⟩ := mP.new (t := 3) (n := N') hL (by omega) (by rw [toE_3 (gT_nH h q 3 N')]; simp [gN, gL, nH, va_up]) hP1 hD1
  exact kk q H1 h2 ⟨h1, hS1⟩
/-! references in locals -/
theorem mx_aload_n (hx : p.tables.exec = Jvm.exec) (hb : c.code = cc) {k : Fin 4} {i : Nat} (hdg : decode cc pc = .ok (.aload_n k, 1)) (hi : (k : Nat) = i) (hl : ls[i]? = some (.val (va_rf r)))
    (kk : W p l e R s m args below meth c H locs cells slots Q (F0 m (pc + 1) ls (va_rf r :: rest))) : W p l e R s m args below meth c H locs cells slots Q (F0 m pc ls rest) := by
  cases r with
  | none => exact lv_aload_nN hx hb hdg hi hl kk
  | some a => exact lv_aload_n hx hb hdg hi hl kk
theorem mx_aload (hx : p.tables.exec = Jvm.exec) (hb : c.code = cc) {i : Nat} (hdg : decode cc pc = .ok (.aload i, 2)) (hl : ls[i]? = some (.val (va_rf r)))
    (kk : W p l e R s m args below meth c H locs cells slots Q (F0 m (pc + 2) ls (va_rf r :: rest))) : W p l e R s m args below meth c H locs cells slots Q (F0 m pc ls rest) := by
  cases r with
  | none => exact lv_aloadN hx hb hdg hl kk
  | some a => exact lv_aload hx hb hdg hl kk
theorem mx_rf_cat (r : Option Nat) : (va_rf r).category = 1 := by cases r <;> rfl
theorem mx_astore_n (hx : p.tables.exec = Jvm.exec) (hb : c.code = cc) {k : Fin 4} {i nL : Nat} {lv lv' : List (Nat × Value)} (hdg : decode cc pc = .ok (.astore_n k, 1)) (hi : (k : Nat) = i) (hl : lv_has ls nL lv) (hn : i < nL) (he : (i, va_rf r) :: lv.filter (fun q => !(q.1 == i) && !(q.1 + 1 == i && q.2.category == 2)) = lv')
    (kk : ∀ ls' : Array Slot, lv_has ls' nL lv' → W p l e R s m args below meth c H locs cells slots Q (F0 m (pc + 1) ls' rest)) : W p l e R s m args below meth c H locs cells slots Q (F0 m pc ls (va_rf r :: rest)) := by
  cases r with
  | none => exact lv_astore_nN hx hb hdg hi hl hn he kk
  | some a => exact lv_astore_n hx hb hdg hi hl hn he kk
theorem mx_astore (hx : p.tables.exec = Jvm.exec) (hb : c.code = cc) {i nL : Nat} {lv lv' : List (Nat × Value)} (hdg : decode cc pc = .ok (.astore i, 2)) (hl : lv_has ls nL lv) (hn : i < nL) (he : (i, va_rf r) :: lv.filter (fun q => !(q.1 == i) && !(q.1 + 1 == i && q.2.category == 2)) = lv')
    (kk : ∀ ls' : Array Slot, lv_has ls' nL lv' → W p l e R s m args below meth c H locs cells slots Q (F0 m (pc + 2) ls' rest)) : W p l e R s m args below meth c H locs cells slots Q (F0 m pc ls (va_rf r :: rest)) := by
  cases r with
  | none => exact lv_astoreN hx hb hdg hl hn he kk
  | some a => exact lv_astore hx hb hdg hl hn he kk
theorem mx_ifnull (hx : p.tables.exec = Jvm.exec) (hb : c.code = cc) {off : Int} {tgt : Nat} (hdg : decode cc pc = .ok (.ifnull off, 3)) (ht : (pc : Int) + off = (tgt : Int)) (kt : r = none → W p l e R s m args below meth c H locs cells slots Q (F0 m tgt ls rest)) (kf : ¬ r = none → W p l e R s m args below meth c H locs cells slots Q (F0 m (pc + 3) ls rest)) : W p l e R s m args below meth c H locs cells slots Q (F0 m pc ls (va_rf r :: rest)) := by
  cases r with
  | none => exact lv_ifnullN hx hb hdg ht (kt rfl)
  | some a => exact lv_ifnull hx hb hdg (kf (fun h => by cases h))
theorem mx_ifnonnull (hx : p.tables.exec = Jvm.exec) (hb : c.code = cc) {off : Int} {tgt : Nat} (hdg : decode cc pc = .ok (.ifnonnull off, 3)) (ht : (pc : Int) + off = (tgt : Int)) (kt : ¬ r = none → W p l e R s m args below meth c H locs cells slots Q (F0 m tgt ls rest)) (kf : r = none → W p l e R s m args below meth c H locs cells slots Q (F0 m (pc + 3) ls rest)) : W p l e R s m args below meth c H locs cells slots Q (F0 m pc ls (va_rf r :: rest)) := by
  cases r with
  | none => exact lv_ifnonnullN hx hb hdg (kf rfl)
  | some a => exact lv_ifnonnull hx hb hdg ht (kt (fun h => by cases h))
theorem mx_null (hx : p.tables.exec = Jvm.exec) (hb : c.code = cc) (hdg : decode cc pc = .ok (.aconst_null, 1)) (kk : W p l e R s m args below meth c H locs cells slots Q (F0 m (pc + 1) ls (va_rf none :: rest))) : W p l e R s m args below meth c H locs cells slots Q (F0 m pc ls rest) := lv_null hx hb hdg kk
/-- a cast of null, or of an object of just that class -/
theorem mx_cast (hx : p.tables.exec = Jvm.exec) (hb : c.code = cc) (hW : ∀ w ∈ WA, w.before args s = true) {own C : String} {T : u_T} {N ci index : Nat} (hown : s.vm.findClass own = some m.cls) (hK : va_K D vcl (mtys cs) s) (hR : mR D cs A h H0 H locs) (hc : vcl[ci]? = some (C, T, N)) (hlink : Cond.classLink own index C ∈ WA) (hr : ∀ a, r = some a → gT h a = 16 + ci) (hdg : decode cc pc = .ok (.checkcast index, 3))
    (kk : W p l e R s m args below meth c H locs cells slots Q (F0 m (pc + 3) ls (va_rf r :: rest))) : W p l e R s m args below meth c H locs cells slots Q (F0 m pc ls (va_rf r :: rest)) := by
  cases r with
  | none => exact lv_castN hx hb hdg kk
  | some a =>
    have ht := hr a rfl
    obtain ⟨⟨L, hL, hP, hD⟩, hS⟩ := hR
    obtain ⟨q0, hq⟩ := va_pl_get (X := []) (f := toE cs h) ((hL a).mpr (by rw [ht]; omega))
    rw [toE_o ht] at hq
    exact va_castS hx hb hown (hW _ hlink) (hK.1 ci _ hc).2 (va_recv hK hP hc hq) hdg kk
end MXA
end
section
/-! CONTRACTS OVER PURE HEAPS. Z: a bag of addresses of the JVM's own (Z 0: ArrayList's empty array, Z 1: the class object of Object[]) -/
def fA (h : HS) (sz : Nat) : Nat → Prop := fun q => gT h q ≠ 0 ∨ sz ≤ q
def mAOA (U : State) : Prop := (Cond.arrayOver (.array .int)).before #[] U = true
def castW : List Cond := [.castable "NetJoins$Bus" "java/lang/Object", .castable "NetJoins$Port" "java/lang/Object", .castable "NetJoins$Sheet" "java/lang/Object", .castable "NetJoins$Spot" "java/lang/Object", .castable "NetJoins$Wire" "java/lang/Object"]
def mK (D : va_G) (cs : CS) (Z : Nat → Nat) (U : State) : Prop := va_K D vcl (mtys cs) U ∧ va_AO "java/lang/Object" U ∧ va_Mi "[Ljava/lang/Object;" (Z 1) U ∧ va_Dc U
def mZ (Z : Nat → Nat) (A : Nat → Prop) (U : State) (H : Heap) : Prop := va_Z "java/util/ArrayList" "DEFAULTCAPACITY_EMPTY_ELEMENTDATA" "[Ljava/lang/Object;" (.ref (Z 0)) A U H ∧ va_T (.object "java/lang/Object") (Z 0) 0 (fun _ => .null) A U H
theorem mK.moved {D : va_G} {cs : CS} {Z : Nat → Nat} {u U : State} (hvm : u.vm.Alike U.vm) (h : mK D cs Z u) : mK D cs Z U := ⟨h.1.moved hvm, h.2.1.moved hvm, h.2.2.1.moved hvm, h.2.2.2.moved hvm⟩
theorem mZ.moved {Z : Nat → Nat} {A : Nat → Prop} {u U : State} {H : Heap} (hvm : u.vm.Alike U.vm) (h : mZ Z A u H) : mZ Z A U H := ⟨h.1.moved hvm, h.2.moved hvm⟩
theorem mZ.kept {Z : Nat → Nat} {A : Nat → Prop} {U : State} {H H1 : Heap} (h : mZ Z A U H) (hq : ∀ a : Nat, a < H.size → ¬ A a → H1[a]? = H[a]?) : mZ Z A U H1 := ⟨h.1.kept hq, h.2.kept hq⟩
theorem mZ.narrow {Z : Nat → Nat} {A B : Nat → Prop} {U : State} {H : Heap} (h : mZ Z A U H) (hAB : ∀ q, B q → A q) : mZ Z B U H := ⟨h.1.narrow hAB, h.2.narrow hAB⟩
def mPc (D : va_G) (cs : CS) (Z : Nat → Nat) (h : HS) (sz : Nat) (As : List Value) : Array Value → State → Prop := va_Pc As (fun U => U.heap.size = sz ∧ mP D cs (fun _ => True) h U.heap ∧ mK D cs Z U ∧ mZ Z (fA h sz) U U.heap)
def mB (D : va_G) (cs : CS) (h : HS) (sz : Nat) : HS → State → Prop := fun u t => mP D cs (fA h sz) u t.heap
theorem mP.weaken {D : va_G} {cs : CS} {A B : Nat → Prop} {h : HS} {H : Heap} (hP : mP D cs A h H) (hAB : ∀ q, gT h q ≠ 0 → A q → B q) : mP D cs B h H := by
  obtain ⟨L, hL, hP, hD⟩ := hP
  refine ⟨L, hL, hP, hD.weaken fun k q hk hq => hAB q.1 ?_ hq⟩
  rw [List.nil_append] at hk
  obtain ⟨b, hb, rfl⟩ := List.mem_map.mp (List.mem_of_getElem? hk)
  exact (hL b).mp hb
theorem mP.in {D : va_G} {cs : CS} {A : Nat → Prop} {h : HS} {H : Heap} (hP : mP D cs A h H) {q : Nat} (ht : gT h q ≠ 0) : A q := (hP.at ht).2
theorem fA_in {D : va_G} {cs : CS} {A : Nat → Prop} {h : HS} {H0 H : Heap} {locs : List Loc} (hR : mR D cs A h H0 H locs) (hA : ∀ q, H0.size ≤ q → A q) : ∀ q, fA h H.size q → A q := by
  intro q hq
  rcases hq with hq | hq
  · exact hR.1.in hq
  · exact hA q (Nat.le_trans hR.2.1 hq)
section MXB
variable {p : Program} {l : Launch} {e : Env} {R : Room} {s : State} {m : MethodId} {args : Array Value} {below : List Frame} {meth : Method} {c : Code} {H : Heap} {locs : List Loc} {cells slots : Nat} {Q : State → Prop}
variable {cc : ByteArray} {pc : Nat} {ls : Array Slot} {rest st0 : List Value} {D : va_G} {cs : CS} {Z : Nat → Nat} {A : Nat → Prop} {h : HS} {r : Option Nat} {a : Nat}
theorem mx_blind {sz : Nat} {As : List Value} : FrameBlind (mPc D cs Z h sz As) := by
  intro v U g mk q
  obtain ⟨q0, q1, q2, q3, q4⟩ := q
  exact ⟨q0, q1, q2, q3.moved (Vm.Alike.refl U.vm), q4.moved (Vm.Alike.refl U.vm)⟩
theorem mx_pre {As : List Value} (hK : mK D cs Z s) (hZ : mZ Z A s s.heap) (hA : ∀ q, s.heap.size ≤ q → A q) (hR : mR D cs A h s.heap H locs) : ∀ U : State, U.heap = H → s.WarmedH U.vm → mPc D cs Z h H.size As As.toArray U := by
  intro U hU hW
  refine ⟨rfl, by rw [hU], by rw [hU]; exact hR.1.weaken (fun _ _ _ => trivial), hK.moved hW.alike, ?_⟩
  rw [hU]
  exact ((hZ.kept hR.2.2.1).narrow (fA_in hR hA)).moved hW.alike
theorem mx_preS {As : List Value} (hK : mK D cs Z s) (hZ : mZ Z A s s.heap) (hA : ∀ q, s.heap.size ≤ q → A q) (hR : mR D cs A h s.heap H locs) : PreS s H (mPc D cs Z h H.size As) As := ⟨mx_blind, mx_pre hK hZ hA hR⟩
theorem mx_preV {As : List Value} {C : String} {T : u_T} {N ci b : Nat} (hK : mK D cs Z s) (hZ : mZ Z A s s.heap) (hA : ∀ q, s.heap.size ≤ q → A q) (hR : mR D cs A h s.heap H locs) (hc : vcl[ci]? = some (C, T, N)) (ht : gT h b = 16 + ci) : PreV s H C b (mPc D cs Z h H.size (.ref b :: As)) As := by
  refine ⟨mx_blind, ?_, mx_pre hK hZ hA hR⟩
  obtain ⟨⟨L, hL, hP, hD⟩, hS⟩ := hR
  obtain ⟨q0, hq⟩ := va_pl_get (X := []) (f := toE cs h) ((hL b).mpr (by rw [ht]; omega))
  rw [toE_o ht] at hq
  exact va_recv hK.1 hP hc hq
theorem mx_behind {H1 : Heap} {locs1 : List Loc} {u : HS} {t : State} (hR : mR D cs A h s.heap H locs) (hA : ∀ q, s.heap.size ≤ q → A q) (ht : t.heap = H1) (hB : mB D cs h H.size u t) (hS : va_S A s.heap H1 locs1) : mR D cs A u s.heap H1 locs1 := by
  refine ⟨?_, hS⟩
  have hB' : mP D cs (fA h H.size) u t.heap := hB
  rw [ht] at hB'
  exact hB'.weaken (fun q _ hq => fA_in hR hA q hq)
variable {ar : Array Value} {mc ms : Nat}
theorem mx_calli {post : Int32 → HS → Prop} (hr : va_Run p l e R s m args below meth c H locs cells slots mc ms (F0 m pc ls st0) rest (va_Qi post (mB D cs h H.size) (fA h H.size) ar) (fA h H.size)) (hR : mR D cs A h s.heap H locs) (hA : ∀ q, s.heap.size ≤ q → A q)
    (kk : ∀ (v : Int32) (u : HS) (H1 : Heap) (locs1 : List Loc), post v u → mR D cs A u s.heap H1 locs1 → W p l e R s m args below meth c H1 locs1 (cells + mc) (slots + ms) Q (F0 m (pc + 3) ls (.int v :: rest))) : W p l e R s m args below meth c H locs cells slots Q (F0 m pc ls st0) :=
  va_calli hr hR.2 (fun q _ hq => fA_in hR hA q hq) (fA_in hR hA) fun v u t H1 locs1 ht hvm hw hB hz hk hS => kk v u H1 locs1 hw (mx_behind hR hA ht hB hS)
theorem mx_calll {post : Int64 → HS → Prop} (hr : va_Run p l e R s m args below meth c H locs cells slots mc ms (F0 m pc ls st0) rest (va_Ql post (mB D cs h H.size) (fA h H.size) ar) (fA h H.size)) (hR : mR D cs A h s.heap H locs) (hA : ∀ q, s.heap.size ≤ q → A q)
    (kk : ∀ (v : Int64) (u : HS) (H1 : Heap) (locs1 : List Loc), post v u → mR D cs A u s.heap H1 locs1 → W p l e R s m args below meth c H1 locs1 (cells + mc) (slots + ms) Q (F0 m (pc + 3) ls (.long v :: rest))) : W p l e R s m args below meth c H locs cells slots Q (F0 m pc ls st0) :=
  va_calll hr hR.2 (fun q _ hq => fA_in hR hA q hq) (fA_in hR hA) fun v u t H1 locs1 ht hvm hw hB hz hk hS => kk v u H1 locs1 hw (mx_behind hR hA ht hB hS)
theorem mx_callv {post : HS → Prop} (hr : va_Run p l e R s m args below meth c H locs cells slots mc ms (F0 m pc ls st0) rest (va_Qv post (mB D cs h H.size) (fA h H.size) ar) (fA h H.size)) (hR : mR D cs A h s.heap H locs) (hA : ∀ q, s.heap.size ≤ q → A q)
    (kk : ∀ (u : HS) (H1 : Heap) (locs1 : List Loc), post u → mR D cs A u s.heap H1 locs1 → W p l e R s m args below meth c H1 locs1 (cells + mc) (slots + ms) Q (F0 m (pc + 3) ls rest)) : W p l e R s m args below meth c H locs cells slots Q (F0 m pc ls st0) :=
  va_callv hr hR.2 (fun q _ hq => fA_in hR hA q hq) (fA_in hR hA) fun u t H1 locs1 ht hvm hw hB hz hk hS => kk u H1 locs1 hw (mx_behind hR hA ht hB hS)
theorem mx_callr {post : Option Nat → HS → Prop} (hr : va_Run p l e R s m args below meth c H locs cells slots mc ms (F0 m pc ls st0) rest (va_Qq post (mB D cs h H.size) (fA h H.size) ar) (fA h H.size)) (hR : mR D cs A h s.heap H locs) (hA : ∀ q, s.heap.size ≤ q → A q)
    (kk : ∀ (v : Option Nat) (u : HS) (H1 : Heap) (locs1 : List Loc), post v u → mR D cs A u s.heap H1 locs1 → W p l e R s m args below meth c H1 locs1 (cells + mc) (slots + ms) Q (F0 m (pc + 3) ls (va_rf v :: rest))) : W p l e R s m args below meth c H locs cells slots Q (F0 m pc ls st0) :=
  va_callq hr hR.2 (fun q _ hq => fA_in hR hA q hq) (fA_in hR hA) fun v u t H1 locs1 ht hvm hw hB hz hk hS => kk v u H1 locs1 hw (mx_behind hR hA ht hB hS)
/-! ends -/
variable {h0 : HS}
theorem mx_iret {post : Int32 → HS → Prop} {v : Int32} (hx : p.tables.exec = Jvm.exec) (hb : c.code = cc) (hr : meth.sig.returnType = some .int) (hlocks : meth.locks = false) (hR : mR D cs (fA h0 s.heap.size) h s.heap H locs) (hw : post v h) (hdg : decode cc pc = .ok (.ireturn, 1)) : W p l e R s m args below meth c H locs cells slots (MQ below (va_Qi post (mB D cs h0 s.heap.size) (fA h0 s.heap.size)) args s cells slots (fA h0 s.heap.size)) (F0 m pc ls [.int v]) :=
  W.iret (v := v) hx hb hr (fun t ht hW => ⟨⟨v, h, rfl, hw, by show mP _ _ _ _ _; rw [ht]; exact hR.1⟩, hR.2.F ht⟩) hR.2.2.2 hdg hlocks
theorem mx_zret {post : Int32 → HS → Prop} {v : Int32} (hx : p.tables.exec = Jvm.exec) (hb : c.code = cc) (hr : meth.sig.returnType = some .boolean) (hlocks : meth.locks = false) (hR : mR D cs (fA h0 s.heap.size) h s.heap H locs) (hz : v = 0 ∨ v = 1) (hw : post v h) (hdg : decode cc pc = .ok (.ireturn, 1)) : W p l e R s m args below meth c H locs cells slots (MQ below (va_Qi post (mB D cs h0 s.heap.size) (fA h0 s.heap.size)) args s cells slots (fA h0 s.heap.size)) (F0 m pc ls [.int v]) :=
  W.zret (v := v) (ty := .boolean) hx hb hr (mx_z_n hz).1 (fun t ht hW => ⟨⟨v, h, rfl, hw, by show mP _ _ _ _ _; rw [ht]; exact hR.1⟩, hR.2.F ht⟩) hR.2.2.2 hdg hlocks
theorem mx_vret {post : HS → Prop} (hx : p.tables.exec = Jvm.exec) (hb : c.code = cc) (hr : meth.sig.returnType = none) (hlocks : meth.locks = false) (hR : mR D cs (fA h0 s.heap.size) h s.heap H locs) (hw : post h) (hdg : decode cc pc = .ok (.return_, 1)) : W p l e R s m args below meth c H locs cells slots (MQ below (va_Qv post (mB D cs h0 s.heap.size) (fA h0 s.heap.size)) args s cells slots (fA h0 s.heap.size)) (F0 m pc ls []) :=
  W.vret hx hb hr (fun t ht hW => ⟨⟨h, rfl, hw, by show mP _ _ _ _ _; rw [ht]; exact hR.1⟩, hR.2.F ht⟩) hR.2.2.2 hdg hlocks
theorem mx_aret {post : Option Nat → HS → Prop} {v : Option Nat} {rt : FieldType} (hx : p.tables.exec = Jvm.exec) (hb : c.code = cc) (hr : meth.sig.returnType = some rt) (hrt : (∃ n, rt = .object n) ∨ ∃ t, rt = .array t) (hlocks : meth.locks = false) (hR : mR D cs (fA h0 s.heap.size) h s.heap H locs) (hw : post v h) (hdg : decode cc pc = .ok (.areturn, 1)) : W p l e R s m args below meth c H locs cells slots (MQ below (va_Qq post (mB D cs h0 s.heap.size) (fA h0 s.heap.size)) args s cells slots (fA h0 s.heap.size)) (F0 m pc ls [va_rf v]) :=
  W.aret (v := va_rf v) hx hb hr hrt (va_rf_or v) (fun t ht hW => ⟨⟨v, h, rfl, hw, by show mP _ _ _ _ _; rw [ht]; exact hR.1⟩, hR.2.F ht⟩) hR.2.2.2 hdg hlocks
end MXB
/-- what a walk stands on, whatever its place -/
def mC (D : va_G) (cs : CS) (Z : Nat → Nat) (h0 : HS) (y : MethodName) (cc : ByteArray) (maxL : Nat) (ret : Option FieldType) (p : Program) (s : State) (m : MethodId) (args : Array Value) (meth : Method) (c : Code) : Prop :=
  p.tables.exec = Jvm.exec ∧ c.code = cc ∧ meth.sig.returnType = ret ∧ c.maxLocals = maxL ∧ s.vm.findClass y.cls = some m.cls ∧ (∀ w ∈ WA, w.before args s = true) ∧ meth.locks = false ∧ meth.name = y.name ∧ mK D cs Z s ∧ mZ Z (fA h0 s.heap.size) s s.heap
theorem mx_met {l : Launch} {y : MethodName} {cc : ByteArray} {maxL : Nat} {ret : Option FieldType} {rm : Room} {D : va_G} {cs : CS} {Z : Nat → Nat} {h : HS} {sz mc ms : Nat} {As : List Value} (Qf : Nat → Array Value → State → Outcome → State → Prop) (hy : plainName y.cls = true) (hAs : (lg_sl As).length ≤ maxL)
    (body : ∀ (p : Program) (e : Env) (s : State) (m : MethodId) (args : Array Value) (below : List Frame) (meth : Method) (c : Code), mC D cs Z h y cc maxL ret p s m args meth c → mR D cs (fA h s.heap.size) h s.heap s.heap [] → ∀ ls : Array Slot, lv_has ls maxL (lv_args 0 As) → W p l e rm s m args below meth c s.heap [] 0 0 (MQ below (Qf s.heap.size) args s mc ms (fA h s.heap.size)) (F0 m 0 ls [])) :
    Met l y (Cond.code y cc maxL ret :: WA) rm (mPc D cs Z h sz As) (Qf sz) mc ms (fA h sz) := by
  refine Met.ofW (cc := cc) (maxL := maxL) (ret := ret) hy rfl ?_
  intro p e s m args below meth c s₁ B hml hv
  obtain ⟨rfl, hsz, hP, hK, hZ⟩ := hv
  subst hsz
  have hts := atoms_spec (ws := Cond.code y cc maxL ret :: WA) B.pre
  have hl := lv_entry As (n := maxL) hAs
  rw [lg_entry_eq]
  exact body p e s m As.toArray below meth c ⟨B.exec, B.bytes, B.returns, hml, findClass_of_methodNamed B.named, fun w hw => hts w (List.mem_cons_of_mem _ hw), B.notSynchronized, (name_of_methodNamed B.named B.method).1, hK, hZ⟩ ⟨hP.weaken (fun q hq _ => Or.inl hq), va_S.rf⟩ _ hl
/-! words of a call -/
theorem gi_b {c2 : Cond} (h : c2 ∈ WA) : GoodIn WA (c2 :: WA) := fun w hw => (List.mem_cons.mp hw).elim (fun e => by rw [e]; exact ⟨h, wa_good h⟩) (wa_self w)
def vOK (y : MethodName) (bytes : ByteArray) (maxL : Nat) (ret : Option FieldType) (n : Nat) : Prop := Cond.code y bytes maxL ret ∈ WA ∧ Cond.instanceMethod y ∈ WA ∧ Cond.selects y.cls y y ∈ WA ∧ Cond.initialized y.cls ∈ WA ∧ (y.cls ≠ "java/lang/invoke/MethodHandle" ∧ y.cls ≠ "java/lang/invoke/VarHandle" ∧ (parseMethodDescriptor y.desc).map (fun d => d.parameters.length) = some n)
def sOK (y : MethodName) (bytes : ByteArray) (maxL : Nat) (ret : Option FieldType) (n : Nat) : Prop := Cond.code y bytes maxL ret ∈ WA ∧ Cond.static y ∈ WA ∧ Cond.initialized y.cls ∈ WA ∧ (y.cls ≠ "java/lang/invoke/MethodHandle" ∧ y.cls ≠ "java/lang/invoke/VarHandle" ∧ (parseMethodDescriptor y.desc).map (fun d => d.parameters.length) = some n)
def iOK (y : MethodName) (bytes : ByteArray) (maxL : Nat) (n : Nat) : Prop := Cond.code y bytes maxL none ∈ WA ∧ Cond.instanceMethod y ∈ WA ∧ Cond.initialized y.cls ∈ WA ∧ y.name = "<init>" ∧ (y.cls ≠ "java/lang/invoke/MethodHandle" ∧ y.cls ≠ "java/lang/invoke/VarHandle" ∧ (parseMethodDescriptor y.desc).map (fun d => d.parameters.length) = some n)
section MXD
variable {R : Room} {s : State} {args : Array Value} {own : String} {index : Nat} {y : MethodName} {bytes : ByteArray} {maxL : Nat} {ret : Option FieldType} {rm : Room} {mc ms n : Nat}
theorem mx_cwV (hW : ∀ w ∈ WA, w.before args s = true) (hy : vOK y bytes maxL ret n) (hl : Cond.methodLink own index y ∈ WA) (hrc : rm.cells = mc) (hrs : rm.slots = ms) (hR : rm.frames + 1 ≤ R.frames ∧ 8 + (maxL + 11) + rm.locals ≤ R.locals) : CallW R s args own y.cls index y bytes maxL ret (Cond.code y bytes maxL ret :: WA) rm mc ms n :=
  ⟨callB_of n hW (gi_b hy.1) rfl hrc hrs (hW _ hy.2.2.2.1) (hW _ hl) hy.2.2.2.2 hR, hW _ hy.2.1, hW _ hy.2.2.1⟩
theorem mx_cwS (hW : ∀ w ∈ WA, w.before args s = true) (hy : sOK y bytes maxL ret n) (hl : Cond.methodLink own index y ∈ WA) (hrc : rm.cells = mc) (hrs : rm.slots = ms) (hR : rm.frames + 1 ≤ R.frames ∧ 8 + (maxL + 11) + rm.locals ≤ R.locals) : CallB R s args own index y bytes maxL ret (Cond.code y bytes maxL ret :: WA) rm mc ms n ∧ (Cond.static y).before args s = true :=
  ⟨callB_of n hW (gi_b hy.1) rfl hrc hrs (hW _ hy.2.2.1) (hW _ hl) hy.2.2.2 hR, hW _ hy.2.1⟩
theorem mx_cwI (hW : ∀ w ∈ WA, w.before args s = true) (hy : iOK y bytes maxL n) (hl : Cond.methodLink own index y ∈ WA) (hrc : rm.cells = mc) (hrs : rm.slots = ms) (hR : rm.frames + 1 ≤ R.frames ∧ 8 + (maxL + 11) + rm.locals ≤ R.locals) : CallB R s args own index y bytes maxL none (Cond.code y bytes maxL none :: WA) rm mc ms n ∧ y.name = "<init>" ∧ (Cond.instanceMethod y).before args s = true :=
  ⟨callB_of n hW (gi_b hy.1) rfl hrc hrs (hW _ hy.2.2.1) (hW _ hl) hy.2.2.2.2 hR, hy.2.2.2.1, hW _ hy.2.1⟩
end MXD
end
section
/-! LOOPS as predicates: so many turns at most -/
def lpF {σ : Type} (B : (σ → Prop) → σ → Prop) : Nat → σ → Prop
  | 0 => fun _ => False
  | n + 1 => B (lpF B n)
def lp {σ : Type} (B : (σ → Prop) → σ → Prop) (q : σ) : Prop := ∃ n, lpF B n q
/-- the rule of a loop: an invariant, a measure that falls -/
theorem lp_inv {σ : Type} {B : (σ → Prop) → σ → Prop} (I : σ → Prop) (μ : σ → Nat) (hs : ∀ (q : σ) (K : σ → Prop), I q → (∀ q', I q' → μ q' < μ q → K q') → B K q) : ∀ q, I q → lp B q := by
  have key : ∀ (n : Nat) (q : σ), I q → μ q < n → lpF B n q := by
    intro n
    induction n with
    | zero => intro q _ h; omega
    | succ n ih => exact fun q hq hn => hs q _ hq fun q' h1 h2 => ih q' h1 (by omega)
  exact fun q hq => ⟨μ q + 1, key _ q hq (Nat.lt_succ_self _)⟩
theorem mx_topr {p : Program} {l : Launch} {e : Env} {R : Room} {s : State} {m : MethodId} {args : Array Value} {below : List Frame} {meth : Method} {c : Code} {H : Heap} {locs : List Loc} {cells slots : Nat} {Q : State → Prop} {pc : Nat} {ls : Array Slot} {rest : List Value} {r : Option Nat} (k : ∀ y : Option Nat, y = r → W p l e R s m args below meth c H locs cells slots Q (F0 m pc ls (va_rf y :: rest))) : W p l e R s m args below meth c H locs cells slots Q (F0 m pc ls (va_rf r :: rest)) := k r rfl
theorem nf_NJ (h : HS) (q j : Nat) (hj : j < 18) : defaultValue (t_NJ j) = vp_V (fl (nH h q (16 + 0) 0) q 0) j := by
  match j, hj with
  | 0, _ => simp [t_NJ, vp_V, fl, lk, fv, gI, gJ, gR, nH, va_up, va_rf, defaultValue]
  | 1, _ => simp [t_NJ, vp_V, fl, lk, fv, gI, gJ, gR, nH, va_up, va_rf, defaultValue]
  | 2, _ => simp [t_NJ, vp_V, fl, lk, fv, gI, gJ, gR, nH, va_up, va_rf, defaultValue]
  | 3, _ => simp [t_NJ, vp_V, fl, lk, fv, gI, gJ, gR, nH, va_up, va_rf, defaultValue]
  | 4, _ => simp [t_NJ, vp_V, fl, lk, fv, gI, gJ, gR, nH, va_up, va_rf, defaultValue]
  | 5, _ => simp [t_NJ, vp_V, fl, lk, fv, gI, gJ, gR, nH, va_up, va_rf, defaultValue]
  | 6, _ => simp [t_NJ, vp_V, fl, lk, fv, gI, gJ, gR, nH, va_up, va_rf, defaultValue]
  | 7, _ => simp [t_NJ, vp_V, fl, lk, fv, gI, gJ, gR, nH, va_up, va_rf, defaultValue]
  | 8, _ => simp [t_NJ, vp_V, fl, lk, fv, gI, gJ, gR, nH, va_up, va_rf, defaultValue]
  | 9, _ => simp [t_NJ, vp_V, fl, lk, fv, gI, gJ, gR, nH, va_up, va_rf, defaultValue]
  | 10, _ => simp [t_NJ, vp_V, fl, lk, fv, gI, gJ, gR, nH, va_up, va_rf, defaultValue]
  | 11, _ => simp [t_NJ, vp_V, fl, lk, fv, gI, gJ, gR, nH, va_up, va_rf, defaultValue]
  | 12, _ => simp [t_NJ, vp_V, fl, lk, fv, gI, gJ, gR, nH, va_up, va_rf, defaultValue]
  | 13, _ => simp [t_NJ, vp_V, fl, lk, fv, gI, gJ, gR, nH, va_up, va_rf, defaultValue]
  | 14, _ => simp [t_NJ, vp_V, fl, lk, fv, gI, gJ, gR, nH, va_up, va_rf, defaultValue]
  | 15, _ => simp [t_NJ, vp_V, fl, lk, fv, gI, gJ, gR, nH, va_up, va_rf, defaultValue]
  | 16, _ => simp [t_NJ, vp_V, fl, lk, fv, gI, gJ, gR, nH, va_up, va_rf, defaultValue]
  | 17, _ => simp [t_NJ, vp_V, fl, lk, fv, gI, gJ, gR, nH, va_up, va_rf, defaultValue]
  | j + 18, hj => omega
theorem nf_Bus (h : HS) (q j : Nat) (hj : j < 4) : defaultValue (t_Bus j) = vp_V (fl (nH h q (16 + 1) 0) q 1) j := by
  match j, hj with
  | 0, _ => simp [t_Bus, vp_V, fl, lk, fv, gI, gJ, gR, nH, va_up, va_rf, defaultValue]
  | 1, _ => simp [t_Bus, vp_V, fl, lk, fv, gI, gJ, gR, nH, va_up, va_rf, defaultValue]
  | 2, _ => simp [t_Bus, vp_V, fl, lk, fv, gI, gJ, gR, nH, va_up, va_rf, defaultValue]
  | 3, _ => simp [t_Bus, vp_V, fl, lk, fv, gI, gJ, gR, nH, va_up, va_rf, defaultValue]
  | j + 4, hj => omega
theorem nf_Joins (h : HS) (q j : Nat) (hj : j < 1) : defaultValue (t_Joins j) = vp_V (fl (nH h q (16 + 2) 0) q 2) j := by
  match j, hj with
  | 0, _ => simp [t_Joins, vp_V, fl, lk, fv, gI, gJ, gR, nH, va_up, va_rf, defaultValue]
  | j + 1, hj => omega
theorem nf_Tab (h : HS) (q j : Nat) (hj : j < 7) : defaultValue (t_Tab j) = vp_V (fl (nH h q (16 + 3) 0) q 3) j := by
  match j, hj with
  | 0, _ => simp [t_Tab, vp_V, fl, lk, fv, gI, gJ, gR, nH, va_up, va_rf, defaultValue]
  | 1, _ => simp [t_Tab, vp_V, fl, lk, fv, gI, gJ, gR, nH, va_up, va_rf, defaultValue]
  | 2, _ => simp [t_Tab, vp_V, fl, lk, fv, gI, gJ, gR, nH, va_up, va_rf, defaultValue]
  | 3, _ => simp [t_Tab, vp_V, fl, lk, fv, gI, gJ, gR, nH, va_up, va_rf, defaultValue]
  | 4, _ => simp [t_Tab, vp_V, fl, lk, fv, gI, gJ, gR, nH, va_up, va_rf, defaultValue]
  | 5, _ => simp [t_Tab, vp_V, fl, lk, fv, gI, gJ, gR, nH, va_up, va_rf, defaultValue]
  | 6, _ => simp [t_Tab, vp_V, fl, lk, fv, gI, gJ, gR, nH, va_up, va_rf, defaultValue]
  | j + 7, hj => omega
theorem nf_Port (h : HS) (q j : Nat) (hj : j < 5) : defaultValue (t_Port j) = vp_V (fl (nH h q (16 + 4) 0) q 4) j := by
  match j, hj with
  | 0, _ => simp [t_Port, vp_V, fl, lk, fv, gI, gJ, gR, nH, va_up, va_rf, defaultValue]
  | 1, _ => simp [t_Port, vp_V, fl, lk, fv, gI, gJ, gR, nH, va_up, va_rf, defaultValue]
  | 2, _ => simp [t_Port, vp_V, fl, lk, fv, gI, gJ, gR, nH, va_up, va_rf, defaultValue]
  | 3, _ => simp [t_Port, vp_V, fl, lk, fv, gI, gJ, gR, nH, va_up, va_rf, defaultValue]
  | 4, _ => simp [t_Port, vp_V, fl, lk, fv, gI, gJ, gR, nH, va_up, va_rf, defaultValue]
  | j + 5, hj => omega
theorem nf_Sheet (h : HS) (q j : Nat) (hj : j < 5) : defaultValue (t_Sheet j) = vp_V (fl (nH h q (16 + 5) 0) q 5) j := by
  match j, hj with
  | 0, _ => simp [t_Sheet, vp_V, fl, lk, fv, gI, gJ, gR, nH, va_up, va_rf, defaultValue]
  | 1, _ => simp [t_Sheet, vp_V, fl, lk, fv, gI, gJ, gR, nH, va_up, va_rf, defaultValue]
  | 2, _ => simp [t_Sheet, vp_V, fl, lk, fv, gI, gJ, gR, nH, va_up, va_rf, defaultValue]
  | 3, _ => simp [t_Sheet, vp_V, fl, lk, fv, gI, gJ, gR, nH, va_up, va_rf, defaultValue]
  | 4, _ => simp [t_Sheet, vp_V, fl, lk, fv, gI, gJ, gR, nH, va_up, va_rf, defaultValue]
  | j + 5, hj => omega
theorem nf_Spot (h : HS) (q j : Nat) (hj : j < 6) : defaultValue (t_Spot j) = vp_V (fl (nH h q (16 + 6) 0) q 6) j := by
  match j, hj with
  | 0, _ => simp [t_Spot, vp_V, fl, lk, fv, gI, gJ, gR, nH, va_up, va_rf, defaultValue]
  | 1, _ => simp [t_Spot, vp_V, fl, lk, fv, gI, gJ, gR, nH, va_up, va_rf, defaultValue]
  | 2, _ => simp [t_Spot, vp_V, fl, lk, fv, gI, gJ, gR, nH, va_up, va_rf, defaultValue]
  | 3, _ => simp [t_Spot, vp_V, fl, lk, fv, gI, gJ, gR, nH, va_up, va_rf, defaultValue]
  | 4, _ => simp [t_Spot, vp_V, fl, lk, fv, gI, gJ, gR, nH, va_up, va_rf, defaultValue]
  | 5, _ => simp [t_Spot, vp_V, fl, lk, fv, gI, gJ, gR, nH, va_up, va_rf, defaultValue]
  | j + 6, hj => omega
theorem nf_Wire (h : HS) (q j : Nat) (hj : j < 7) : defaultValue (t_Wire j) = vp_V (fl (nH h q (16 + 7) 0) q 7) j := by
  match j, hj with
  | 0, _ => simp [t_Wire, vp_V, fl, lk, fv, gI, gJ, gR, nH, va_up, va_rf, defaultValue]
  | 1, _ => simp [t_Wire, vp_V, fl, lk, fv, gI, gJ, gR, nH, va_up, va_rf, defaultValue]
  | 2, _ => simp [t_Wire, vp_V, fl, lk, fv, gI, gJ, gR, nH, va_up, va_rf, defaultValue]
  | 3, _ => simp [t_Wire, vp_V, fl, lk, fv, gI, gJ, gR, nH, va_up, va_rf, defaultValue]
  | 4, _ => simp [t_Wire, vp_V, fl, lk, fv, gI, gJ, gR, nH, va_up, va_rf, defaultValue]
  | 5, _ => simp [t_Wire, vp_V, fl, lk, fv, gI, gJ, gR, nH, va_up, va_rf, defaultValue]
  | 6, _ => simp [t_Wire, vp_V, fl, lk, fv, gI, gJ, gR, nH, va_up, va_rf, defaultValue]
  | j + 7, hj => omega
theorem nf_Mod (h : HS) (q j : Nat) (hj : j < 33) : defaultValue (t_Mod j) = vp_V (fl (nH h q (16 + 8) 0) q 8) j := by
  match j, hj with
  | 0, _ => simp [t_Mod, vp_V, fl, lk, fv, gI, gJ, gR, nH, va_up, va_rf, defaultValue]
  | 1, _ => simp [t_Mod, vp_V, fl, lk, fv, gI, gJ, gR, nH, va_up, va_rf, defaultValue]
  | 2, _ => simp [t_Mod, vp_V, fl, lk, fv, gI, gJ, gR, nH, va_up, va_rf, defaultValue]
  | 3, _ => simp [t_Mod, vp_V, fl, lk, fv, gI, gJ, gR, nH, va_up, va_rf, defaultValue]
  | 4, _ => simp [t_Mod, vp_V, fl, lk, fv, gI, gJ, gR, nH, va_up, va_rf, defaultValue]
  | 5, _ => simp [t_Mod, vp_V, fl, lk, fv, gI, gJ, gR, nH, va_up, va_rf, defaultValue]
  | 6, _ => simp [t_Mod, vp_V, fl, lk, fv, gI, gJ, gR, nH, va_up, va_rf, defaultValue]
  | 7, _ => simp [t_Mod, vp_V, fl, lk, fv, gI, gJ, gR, nH, va_up, va_rf, defaultValue]
  | 8, _ => simp [t_Mod, vp_V, fl, lk, fv, gI, gJ, gR, nH, va_up, va_rf, defaultValue]
  | 9, _ => simp [t_Mod, vp_V, fl, lk, fv, gI, gJ, gR, nH, va_up, va_rf, defaultValue]
  | 10, _ => simp [t_Mod, vp_V, fl, lk, fv, gI, gJ, gR, nH, va_up, va_rf, defaultValue]
  | 11, _ => simp [t_Mod, vp_V, fl, lk, fv, gI, gJ, gR, nH, va_up, va_rf, defaultValue]
  | 12, _ => simp [t_Mod, vp_V, fl, lk, fv, gI, gJ, gR, nH, va_up, va_rf, defaultValue]
  | 13, _ => simp [t_Mod, vp_V, fl, lk, fv, gI, gJ, gR, nH, va_up, va_rf, defaultValue]
  | 14, _ => simp [t_Mod, vp_V, fl, lk, fv, gI, gJ, gR, nH, va_up, va_rf, defaultValue]
  | 15, _ => simp [t_Mod, vp_V, fl, lk, fv, gI, gJ, gR, nH, va_up, va_rf, defaultValue]
  | 16, _ => simp [t_Mod, vp_V, fl, lk, fv, gI, gJ, gR, nH, va_up, va_rf, defaultValue]
  | 17, _ => simp [t_Mod, vp_V, fl, lk, fv, gI, gJ, gR, nH, va_up, va_rf, defaultValue]
  | 18, _ => simp [t_Mod, vp_V, fl, lk, fv, gI, gJ, gR, nH, va_up, va_rf, defaultValue]
  | 19, _ => simp [t_Mod, vp_V, fl, lk, fv, gI, gJ, gR, nH, va_up, va_rf, defaultValue]
  | 20, _ => simp [t_Mod, vp_V, fl, lk, fv, gI, gJ, gR, nH, va_up, va_rf, defaultValue]
  | 21, _ => simp [t_Mod, vp_V, fl, lk, fv, gI, gJ, gR, nH, va_up, va_rf, defaultValue]
  | 22, _ => simp [t_Mod, vp_V, fl, lk, fv, gI, gJ, gR, nH, va_up, va_rf, defaultValue]
  | 23, _ => simp [t_Mod, vp_V, fl, lk, fv, gI, gJ, gR, nH, va_up, va_rf, defaultValue]
  | 24, _ => simp [t_Mod, vp_V, fl, lk, fv, gI, gJ, gR, nH, va_up, va_rf, defaultValue]
  | 25, _ => simp [t_Mod, vp_V, fl, lk, fv, gI, gJ, gR, nH, va_up, va_rf, defaultValue]
  | 26, _ => simp [t_Mod, vp_V, fl, lk, fv, gI, gJ, gR, nH, va_up, va_rf, defaultValue]
  | 27, _ => simp [t_Mod, vp_V, fl, lk, fv, gI, gJ, gR, nH, va_up, va_rf, defaultValue]
  | 28, _ => simp [t_Mod, vp_V, fl, lk, fv, gI, gJ, gR, nH, va_up, va_rf, defaultValue]
  | 29, _ => simp [t_Mod, vp_V, fl, lk, fv, gI, gJ, gR, nH, va_up, va_rf, defaultValue]
  | 30, _ => simp [t_Mod, vp_V, fl, lk, fv, gI, gJ, gR, nH, va_up, va_rf, defaultValue]
  | 31, _ => simp [t_Mod, vp_V, fl, lk, fv, gI, gJ, gR, nH, va_up, va_rf, defaultValue]
  | 32, _ => simp [t_Mod, vp_V, fl, lk, fv, gI, gJ, gR, nH, va_up, va_rf, defaultValue]
  | j + 33, hj => omega
theorem nf_AL (h : HS) (q j : Nat) (hj : j < 3) : defaultValue (t_AL j) = vp_V (fl (nH h q (16 + 9) 0) q 9) j := by
  match j, hj with
  | 0, _ => simp [t_AL, vp_V, fl, lk, fv, gI, gJ, gR, nH, va_up, va_rf, defaultValue]
  | 1, _ => simp [t_AL, vp_V, fl, lk, fv, gI, gJ, gR, nH, va_up, va_rf, defaultValue]
  | 2, _ => simp [t_AL, vp_V, fl, lk, fv, gI, gJ, gR, nH, va_up, va_rf, defaultValue]
  | j + 3, hj => omega
theorem cat_i (x : Int32) : (Value.int x).category = 1 := rfl
theorem cat_l (x : Int64) : (Value.long x).category = 2 := rfl
end
section
theorem kw_5 : (Cond.initialized "NetJoins$Joins") ∈ WA := wa_t 5 (by decide +kernel) (by decide +kernel)
theorem kw_18 : (Cond.initialized "java/lang/Math") ∈ WA := wa_t 18 (by decide +kernel) (by decide +kernel)
theorem kw_75 : (Cond.instanceMethod ({ cls := "NetJoins$Joins", name := "scatterRow", desc := "(I)V" } : MethodName)) ∈ WA := wa_t 75 (by decide +kernel) (by decide +kernel)
theorem kw_76 : (Cond.code ({ cls := "NetJoins$Joins", name := "scatterRow", desc := "(I)V" } : MethodName) prog_3_method_5_code (4 : Nat) (Option.none : Option FieldType)) ∈ WA := wa_t 76 (by decide +kernel) (by decide +kernel)
theorem kw_77 : (Cond.methodLink "NetJoins$Joins" (18 : Nat) ({ cls := "NetJoins$Joins", name := "node", desc := "(II)I" } : MethodName)) ∈ WA := wa_t 77 (by decide +kernel) (by decide +kernel)
theorem kw_78 : (Cond.static ({ cls := "NetJoins$Joins", name := "node", desc := "(II)I" } : MethodName)) ∈ WA := wa_t 78 (by decide +kernel) (by decide +kernel)
theorem kw_79 : (Cond.code ({ cls := "NetJoins$Joins", name := "node", desc := "(II)I" } : MethodName) prog_3_method_2_code (2 : Nat) (Option.some FieldType.int)) ∈ WA := wa_t 79 (by decide +kernel) (by decide +kernel)
theorem kw_80 : (Cond.fieldLink "NetJoins$Joins" (11 : Nat) "NetJoins$Joins" "up" "[[I") ∈ WA := wa_t 80 (by decide +kernel) (by decide +kernel)
theorem kw_224 : (Cond.instanceMethod ({ cls := "NetJoins$Joins", name := "root", desc := "(I)I" } : MethodName)) ∈ WA := wa_t 224 (by decide +kernel) (by decide +kernel)
theorem kw_225 : (Cond.selects "NetJoins$Joins" ({ cls := "NetJoins$Joins", name := "root", desc := "(I)I" } : MethodName) ({ cls := "NetJoins$Joins", name := "root", desc := "(I)I" } : MethodName)) ∈ WA := wa_t 225 (by decide +kernel) (by decide +kernel)
theorem kw_226 : (Cond.code ({ cls := "NetJoins$Joins", name := "root", desc := "(I)I" } : MethodName) prog_3_method_7_code (2 : Nat) (Option.some FieldType.int)) ∈ WA := wa_t 226 (by decide +kernel) (by decide +kernel)
theorem kw_227 : (Cond.methodLink "NetJoins$Joins" (22 : Nat) ({ cls := "NetJoins$Joins", name := "has", desc := "(I)Z" } : MethodName)) ∈ WA := wa_t 227 (by decide +kernel) (by decide +kernel)
theorem kw_229 : (Cond.instanceMethod ({ cls := "NetJoins$Joins", name := "has", desc := "(I)Z" } : MethodName)) ∈ WA := wa_t 229 (by decide +kernel) (by decide +kernel)
theorem kw_230 : (Cond.code ({ cls := "NetJoins$Joins", name := "has", desc := "(I)Z" } : MethodName) prog_3_method_6_code (3 : Nat) (Option.some FieldType.boolean)) ∈ WA := wa_t 230 (by decide +kernel) (by decide +kernel)
theorem kw_231 : (Cond.methodLink "NetJoins$Joins" (26 : Nat) ({ cls := "NetJoins$Joins", name := "climb", desc := "(I)I" } : MethodName)) ∈ WA := wa_t 231 (by decide +kernel) (by decide +kernel)
theorem kw_233 : (Cond.instanceMethod ({ cls := "NetJoins$Joins", name := "climb", desc := "(I)I" } : MethodName)) ∈ WA := wa_t 233 (by decide +kernel) (by decide +kernel)
theorem kw_234 : (Cond.code ({ cls := "NetJoins$Joins", name := "climb", desc := "(I)I" } : MethodName) prog_3_method_8_code (6 : Nat) (Option.some FieldType.int)) ∈ WA := wa_t 234 (by decide +kernel) (by decide +kernel)
theorem kw_235 : (Cond.constant "NetJoins$Joins" (30 : Nat) (1000000 : Int32)) ∈ WA := wa_t 235 (by decide +kernel) (by decide +kernel)
theorem kw_327 : (Cond.instanceMethod ({ cls := "NetJoins$Joins", name := "join", desc := "(II)V" } : MethodName)) ∈ WA := wa_t 327 (by decide +kernel) (by decide +kernel)
theorem kw_328 : (Cond.selects "NetJoins$Joins" ({ cls := "NetJoins$Joins", name := "join", desc := "(II)V" } : MethodName) ({ cls := "NetJoins$Joins", name := "join", desc := "(II)V" } : MethodName)) ∈ WA := wa_t 328 (by decide +kernel) (by decide +kernel)
theorem kw_329 : (Cond.code ({ cls := "NetJoins$Joins", name := "join", desc := "(II)V" } : MethodName) prog_3_method_9_code (7 : Nat) (Option.none : Option FieldType)) ∈ WA := wa_t 329 (by decide +kernel) (by decide +kernel)
theorem kw_330 : (Cond.methodLink "NetJoins$Joins" (31 : Nat) ({ cls := "java/lang/Math", name := "min", desc := "(II)I" } : MethodName)) ∈ WA := wa_t 330 (by decide +kernel) (by decide +kernel)
theorem kw_331 : (Cond.static ({ cls := "java/lang/Math", name := "min", desc := "(II)I" } : MethodName)) ∈ WA := wa_t 331 (by decide +kernel) (by decide +kernel)
theorem kw_332 : (Cond.code ({ cls := "java/lang/Math", name := "min", desc := "(II)I" } : MethodName) prog_20_method_69_code (2 : Nat) (Option.some FieldType.int)) ∈ WA := wa_t 332 (by decide +kernel) (by decide +kernel)
theorem kw_333 : (Cond.methodLink "NetJoins$Joins" (36 : Nat) ({ cls := "java/lang/Math", name := "max", desc := "(II)I" } : MethodName)) ∈ WA := wa_t 333 (by decide +kernel) (by decide +kernel)
theorem kw_334 : (Cond.static ({ cls := "java/lang/Math", name := "max", desc := "(II)I" } : MethodName)) ∈ WA := wa_t 334 (by decide +kernel) (by decide +kernel)
theorem kw_335 : (Cond.code ({ cls := "java/lang/Math", name := "max", desc := "(II)I" } : MethodName) prog_20_method_65_code (2 : Nat) (Option.some FieldType.int)) ∈ WA := wa_t 335 (by decide +kernel) (by decide +kernel)
theorem ks_0 : Cond.selects "NetJoins$Joins" ({ cls := "NetJoins$Joins", name := "scatterRow", desc := "(I)V" } : MethodName) ({ cls := "NetJoins$Joins", name := "scatterRow", desc := "(I)V" } : MethodName) ∈ WA := wa_s 0 (by decide +kernel) (by decide +kernel)
theorem ks_4 : Cond.selects "NetJoins$Joins" ({ cls := "NetJoins$Joins", name := "has", desc := "(I)Z" } : MethodName) ({ cls := "NetJoins$Joins", name := "has", desc := "(I)Z" } : MethodName) ∈ WA := wa_s 4 (by decide +kernel) (by decide +kernel)
theorem ks_5 : Cond.selects "NetJoins$Joins" ({ cls := "NetJoins$Joins", name := "climb", desc := "(I)I" } : MethodName) ({ cls := "NetJoins$Joins", name := "climb", desc := "(I)I" } : MethodName) ∈ WA := wa_s 5 (by decide +kernel) (by decide +kernel)
end
section
abbrev c_Joins_node : ByteArray := prog_3_method_2_code
def y_Joins_node : MethodName := ⟨"NetJoins$Joins", "node", "(II)I"⟩
theorem ok_Joins_node : sOK y_Joins_node c_Joins_node 2 (some .int) 2 := ⟨kw_79, kw_78, kw_5, by decide +kernel⟩
theorem d_Joins_node_0 : decode c_Joins_node 0 = .ok (.iload_n 0, 1) := by decide +kernel
theorem d_Joins_node_1 : decode c_Joins_node 1 = .ok (.bipush 11, 2) := by decide +kernel
theorem d_Joins_node_3 : decode c_Joins_node 3 = .ok (.ishl, 1) := by decide +kernel
theorem d_Joins_node_4 : decode c_Joins_node 4 = .ok (.iload_n 1, 1) := by decide +kernel
theorem d_Joins_node_5 : decode c_Joins_node 5 = .ok (.iadd, 1) := by decide +kernel
theorem d_Joins_node_6 : decode c_Joins_node 6 = .ok (.ireturn, 1) := by decide +kernel
abbrev c_Joins_scatterRow : ByteArray := prog_3_method_5_code
def y_Joins_scatterRow : MethodName := ⟨"NetJoins$Joins", "scatterRow", "(I)V"⟩
theorem ok_Joins_scatterRow : vOK y_Joins_scatterRow c_Joins_scatterRow 4 none 1 := ⟨kw_76, kw_75, ks_0, kw_5, by decide +kernel⟩
theorem d_Joins_scatterRow_0 : decode c_Joins_scatterRow 0 = .ok (.aload_n 0, 1) := by decide +kernel
theorem d_Joins_scatterRow_1 : decode c_Joins_scatterRow 1 = .ok (.getfield 11, 3) := by decide +kernel
theorem d_Joins_scatterRow_4 : decode c_Joins_scatterRow 4 = .ok (.iload_n 1, 1) := by decide +kernel
theorem d_Joins_scatterRow_5 : decode c_Joins_scatterRow 5 = .ok (.aaload, 1) := by decide +kernel
theorem d_Joins_scatterRow_6 : decode c_Joins_scatterRow 6 = .ok (.astore_n 2, 1) := by decide +kernel
theorem d_Joins_scatterRow_7 : decode c_Joins_scatterRow 7 = .ok (.iconst 0, 1) := by decide +kernel
theorem d_Joins_scatterRow_8 : decode c_Joins_scatterRow 8 = .ok (.istore_n 3, 1) := by decide +kernel
theorem d_Joins_scatterRow_9 : decode c_Joins_scatterRow 9 = .ok (.iload_n 3, 1) := by decide +kernel
theorem d_Joins_scatterRow_10 : decode c_Joins_scatterRow 10 = .ok (.aload_n 2, 1) := by decide +kernel
theorem d_Joins_scatterRow_11 : decode c_Joins_scatterRow 11 = .ok (.arraylength, 1) := by decide +kernel
theorem d_Joins_scatterRow_12 : decode c_Joins_scatterRow 12 = .ok (.if_icmp .ge 17, 3) := by decide +kernel
theorem d_Joins_scatterRow_15 : decode c_Joins_scatterRow 15 = .ok (.aload_n 2, 1) := by decide +kernel
theorem d_Joins_scatterRow_16 : decode c_Joins_scatterRow 16 = .ok (.iload_n 3, 1) := by decide +kernel
theorem d_Joins_scatterRow_17 : decode c_Joins_scatterRow 17 = .ok (.iload_n 1, 1) := by decide +kernel
theorem d_Joins_scatterRow_18 : decode c_Joins_scatterRow 18 = .ok (.iload_n 3, 1) := by decide +kernel
theorem d_Joins_scatterRow_19 : decode c_Joins_scatterRow 19 = .ok (.invokestatic 18, 3) := by decide +kernel
theorem d_Joins_scatterRow_22 : decode c_Joins_scatterRow 22 = .ok (.iastore, 1) := by decide +kernel
theorem d_Joins_scatterRow_23 : decode c_Joins_scatterRow 23 = .ok (.iinc 3 1, 3) := by decide +kernel
theorem d_Joins_scatterRow_26 : decode c_Joins_scatterRow 26 = .ok (.goto (-17), 3) := by decide +kernel
theorem d_Joins_scatterRow_29 : decode c_Joins_scatterRow 29 = .ok (.return_, 1) := by decide +kernel
abbrev c_Joins_has : ByteArray := prog_3_method_6_code
def y_Joins_has : MethodName := ⟨"NetJoins$Joins", "has", "(I)Z"⟩
theorem ok_Joins_has : vOK y_Joins_has c_Joins_has 3 (some .boolean) 1 := ⟨kw_230, kw_229, ks_4, kw_5, by decide +kernel⟩
theorem d_Joins_has_0 : decode c_Joins_has 0 = .ok (.iload_n 1, 1) := by decide +kernel
theorem d_Joins_has_1 : decode c_Joins_has 1 = .ok (.bipush 11, 2) := by decide +kernel
theorem d_Joins_has_3 : decode c_Joins_has 3 = .ok (.ishr, 1) := by decide +kernel
theorem d_Joins_has_4 : decode c_Joins_has 4 = .ok (.istore_n 2, 1) := by decide +kernel
theorem d_Joins_has_5 : decode c_Joins_has 5 = .ok (.iload_n 2, 1) := by decide +kernel
theorem d_Joins_has_6 : decode c_Joins_has 6 = .ok (.ifCond .lt 31, 3) := by decide +kernel
theorem d_Joins_has_9 : decode c_Joins_has 9 = .ok (.iload_n 2, 1) := by decide +kernel
theorem d_Joins_has_10 : decode c_Joins_has 10 = .ok (.aload_n 0, 1) := by decide +kernel
theorem d_Joins_has_11 : decode c_Joins_has 11 = .ok (.getfield 11, 3) := by decide +kernel
theorem d_Joins_has_14 : decode c_Joins_has 14 = .ok (.arraylength, 1) := by decide +kernel
theorem d_Joins_has_15 : decode c_Joins_has 15 = .ok (.if_icmp .ge 22, 3) := by decide +kernel
theorem d_Joins_has_18 : decode c_Joins_has 18 = .ok (.iload_n 1, 1) := by decide +kernel
theorem d_Joins_has_19 : decode c_Joins_has 19 = .ok (.sipush 2047, 3) := by decide +kernel
theorem d_Joins_has_22 : decode c_Joins_has 22 = .ok (.iand, 1) := by decide +kernel
theorem d_Joins_has_23 : decode c_Joins_has 23 = .ok (.aload_n 0, 1) := by decide +kernel
theorem d_Joins_has_24 : decode c_Joins_has 24 = .ok (.getfield 11, 3) := by decide +kernel
theorem d_Joins_has_27 : decode c_Joins_has 27 = .ok (.iload_n 2, 1) := by decide +kernel
theorem d_Joins_has_28 : decode c_Joins_has 28 = .ok (.aaload, 1) := by decide +kernel
theorem d_Joins_has_29 : decode c_Joins_has 29 = .ok (.arraylength, 1) := by decide +kernel
theorem d_Joins_has_30 : decode c_Joins_has 30 = .ok (.if_icmp .ge 7, 3) := by decide +kernel
theorem d_Joins_has_33 : decode c_Joins_has 33 = .ok (.iconst 1, 1) := by decide +kernel
theorem d_Joins_has_34 : decode c_Joins_has 34 = .ok (.goto 4, 3) := by decide +kernel
theorem d_Joins_has_37 : decode c_Joins_has 37 = .ok (.iconst 0, 1) := by decide +kernel
theorem d_Joins_has_38 : decode c_Joins_has 38 = .ok (.ireturn, 1) := by decide +kernel
abbrev c_Joins_climb : ByteArray := prog_3_method_8_code
def y_Joins_climb : MethodName := ⟨"NetJoins$Joins", "climb", "(I)I"⟩
theorem ok_Joins_climb : vOK y_Joins_climb c_Joins_climb 6 (some .int) 1 := ⟨kw_234, kw_233, ks_5, kw_5, by decide +kernel⟩
theorem d_Joins_climb_0 : decode c_Joins_climb 0 = .ok (.iload_n 1, 1) := by decide +kernel
theorem d_Joins_climb_1 : decode c_Joins_climb 1 = .ok (.istore_n 2, 1) := by decide +kernel
theorem d_Joins_climb_2 : decode c_Joins_climb 2 = .ok (.iconst 0, 1) := by decide +kernel
theorem d_Joins_climb_3 : decode c_Joins_climb 3 = .ok (.istore_n 3, 1) := by decide +kernel
theorem d_Joins_climb_4 : decode c_Joins_climb 4 = .ok (.iload_n 3, 1) := by decide +kernel
theorem d_Joins_climb_5 : decode c_Joins_climb 5 = .ok (.ldc 30, 2) := by decide +kernel
theorem d_Joins_climb_7 : decode c_Joins_climb 7 = .ok (.if_icmp .ge 74, 3) := by decide +kernel
theorem d_Joins_climb_10 : decode c_Joins_climb 10 = .ok (.aload_n 0, 1) := by decide +kernel
theorem d_Joins_climb_11 : decode c_Joins_climb 11 = .ok (.getfield 11, 3) := by decide +kernel
theorem d_Joins_climb_14 : decode c_Joins_climb 14 = .ok (.iload_n 2, 1) := by decide +kernel
theorem d_Joins_climb_15 : decode c_Joins_climb 15 = .ok (.bipush 11, 2) := by decide +kernel
theorem d_Joins_climb_17 : decode c_Joins_climb 17 = .ok (.ishr, 1) := by decide +kernel
theorem d_Joins_climb_18 : decode c_Joins_climb 18 = .ok (.aaload, 1) := by decide +kernel
theorem d_Joins_climb_19 : decode c_Joins_climb 19 = .ok (.iload_n 2, 1) := by decide +kernel
theorem d_Joins_climb_20 : decode c_Joins_climb 20 = .ok (.sipush 2047, 3) := by decide +kernel
theorem d_Joins_climb_23 : decode c_Joins_climb 23 = .ok (.iand, 1) := by decide +kernel
theorem d_Joins_climb_24 : decode c_Joins_climb 24 = .ok (.iaload, 1) := by decide +kernel
theorem d_Joins_climb_25 : decode c_Joins_climb 25 = .ok (.istore 4, 2) := by decide +kernel
theorem d_Joins_climb_27 : decode c_Joins_climb 27 = .ok (.iload 4, 2) := by decide +kernel
theorem d_Joins_climb_29 : decode c_Joins_climb 29 = .ok (.iload_n 2, 1) := by decide +kernel
theorem d_Joins_climb_30 : decode c_Joins_climb 30 = .ok (.if_icmp .ne 6, 3) := by decide +kernel
theorem d_Joins_climb_33 : decode c_Joins_climb 33 = .ok (.goto 48, 3) := by decide +kernel
theorem d_Joins_climb_36 : decode c_Joins_climb 36 = .ok (.aload_n 0, 1) := by decide +kernel
theorem d_Joins_climb_37 : decode c_Joins_climb 37 = .ok (.getfield 11, 3) := by decide +kernel
theorem d_Joins_climb_40 : decode c_Joins_climb 40 = .ok (.iload 4, 2) := by decide +kernel
theorem d_Joins_climb_42 : decode c_Joins_climb 42 = .ok (.bipush 11, 2) := by decide +kernel
theorem d_Joins_climb_44 : decode c_Joins_climb 44 = .ok (.ishr, 1) := by decide +kernel
theorem d_Joins_climb_45 : decode c_Joins_climb 45 = .ok (.aaload, 1) := by decide +kernel
theorem d_Joins_climb_46 : decode c_Joins_climb 46 = .ok (.iload 4, 2) := by decide +kernel
theorem d_Joins_climb_48 : decode c_Joins_climb 48 = .ok (.sipush 2047, 3) := by decide +kernel
theorem d_Joins_climb_51 : decode c_Joins_climb 51 = .ok (.iand, 1) := by decide +kernel
theorem d_Joins_climb_52 : decode c_Joins_climb 52 = .ok (.iaload, 1) := by decide +kernel
theorem d_Joins_climb_53 : decode c_Joins_climb 53 = .ok (.istore 5, 2) := by decide +kernel
theorem d_Joins_climb_55 : decode c_Joins_climb 55 = .ok (.aload_n 0, 1) := by decide +kernel
theorem d_Joins_climb_56 : decode c_Joins_climb 56 = .ok (.getfield 11, 3) := by decide +kernel
theorem d_Joins_climb_59 : decode c_Joins_climb 59 = .ok (.iload_n 2, 1) := by decide +kernel
theorem d_Joins_climb_60 : decode c_Joins_climb 60 = .ok (.bipush 11, 2) := by decide +kernel
theorem d_Joins_climb_62 : decode c_Joins_climb 62 = .ok (.ishr, 1) := by decide +kernel
theorem d_Joins_climb_63 : decode c_Joins_climb 63 = .ok (.aaload, 1) := by decide +kernel
theorem d_Joins_climb_64 : decode c_Joins_climb 64 = .ok (.iload_n 2, 1) := by decide +kernel
theorem d_Joins_climb_65 : decode c_Joins_climb 65 = .ok (.sipush 2047, 3) := by decide +kernel
theorem d_Joins_climb_68 : decode c_Joins_climb 68 = .ok (.iand, 1) := by decide +kernel
theorem d_Joins_climb_69 : decode c_Joins_climb 69 = .ok (.iload 5, 2) := by decide +kernel
theorem d_Joins_climb_71 : decode c_Joins_climb 71 = .ok (.iastore, 1) := by decide +kernel
theorem d_Joins_climb_72 : decode c_Joins_climb 72 = .ok (.iload 5, 2) := by decide +kernel
theorem d_Joins_climb_74 : decode c_Joins_climb 74 = .ok (.istore_n 2, 1) := by decide +kernel
theorem d_Joins_climb_75 : decode c_Joins_climb 75 = .ok (.iinc 3 1, 3) := by decide +kernel
theorem d_Joins_climb_78 : decode c_Joins_climb 78 = .ok (.goto (-74), 3) := by decide +kernel
theorem d_Joins_climb_81 : decode c_Joins_climb 81 = .ok (.iload_n 2, 1) := by decide +kernel
theorem d_Joins_climb_82 : decode c_Joins_climb 82 = .ok (.ireturn, 1) := by decide +kernel
abbrev c_Joins_root : ByteArray := prog_3_method_7_code
def y_Joins_root : MethodName := ⟨"NetJoins$Joins", "root", "(I)I"⟩
theorem ok_Joins_root : vOK y_Joins_root c_Joins_root 2 (some .int) 1 := ⟨kw_226, kw_224, kw_225, kw_5, by decide +kernel⟩
theorem d_Joins_root_0 : decode c_Joins_root 0 = .ok (.aload_n 0, 1) := by decide +kernel
theorem d_Joins_root_1 : decode c_Joins_root 1 = .ok (.iload_n 1, 1) := by decide +kernel
theorem d_Joins_root_2 : decode c_Joins_root 2 = .ok (.invokevirtual 22, 3) := by decide +kernel
theorem d_Joins_root_5 : decode c_Joins_root 5 = .ok (.ifCond .eq 11, 3) := by decide +kernel
theorem d_Joins_root_8 : decode c_Joins_root 8 = .ok (.aload_n 0, 1) := by decide +kernel
theorem d_Joins_root_9 : decode c_Joins_root 9 = .ok (.iload_n 1, 1) := by decide +kernel
theorem d_Joins_root_10 : decode c_Joins_root 10 = .ok (.invokevirtual 26, 3) := by decide +kernel
theorem d_Joins_root_13 : decode c_Joins_root 13 = .ok (.goto 4, 3) := by decide +kernel
theorem d_Joins_root_16 : decode c_Joins_root 16 = .ok (.iload_n 1, 1) := by decide +kernel
theorem d_Joins_root_17 : decode c_Joins_root 17 = .ok (.ireturn, 1) := by decide +kernel
abbrev c_Joins_join : ByteArray := prog_3_method_9_code
def y_Joins_join : MethodName := ⟨"NetJoins$Joins", "join", "(II)V"⟩
theorem ok_Joins_join : vOK y_Joins_join c_Joins_join 7 none 2 := ⟨kw_329, kw_327, kw_328, kw_5, by decide +kernel⟩
theorem d_Joins_join_0 : decode c_Joins_join 0 = .ok (.aload_n 0, 1) := by decide +kernel
theorem d_Joins_join_1 : decode c_Joins_join 1 = .ok (.iload_n 1, 1) := by decide +kernel
theorem d_Joins_join_2 : decode c_Joins_join 2 = .ok (.invokevirtual 22, 3) := by decide +kernel
theorem d_Joins_join_5 : decode c_Joins_join 5 = .ok (.ifCond .eq 11, 3) := by decide +kernel
theorem d_Joins_join_8 : decode c_Joins_join 8 = .ok (.aload_n 0, 1) := by decide +kernel
theorem d_Joins_join_9 : decode c_Joins_join 9 = .ok (.iload_n 2, 1) := by decide +kernel
theorem d_Joins_join_10 : decode c_Joins_join 10 = .ok (.invokevirtual 22, 3) := by decide +kernel
theorem d_Joins_join_13 : decode c_Joins_join 13 = .ok (.ifCond .ne 4, 3) := by decide +kernel
theorem d_Joins_join_16 : decode c_Joins_join 16 = .ok (.return_, 1) := by decide +kernel
theorem d_Joins_join_17 : decode c_Joins_join 17 = .ok (.aload_n 0, 1) := by decide +kernel
theorem d_Joins_join_18 : decode c_Joins_join 18 = .ok (.iload_n 1, 1) := by decide +kernel
theorem d_Joins_join_19 : decode c_Joins_join 19 = .ok (.invokevirtual 26, 3) := by decide +kernel
theorem d_Joins_join_22 : decode c_Joins_join 22 = .ok (.istore_n 3, 1) := by decide +kernel
theorem d_Joins_join_23 : decode c_Joins_join 23 = .ok (.aload_n 0, 1) := by decide +kernel
theorem d_Joins_join_24 : decode c_Joins_join 24 = .ok (.iload_n 2, 1) := by decide +kernel
theorem d_Joins_join_25 : decode c_Joins_join 25 = .ok (.invokevirtual 26, 3) := by decide +kernel
theorem d_Joins_join_28 : decode c_Joins_join 28 = .ok (.istore 4, 2) := by decide +kernel
theorem d_Joins_join_30 : decode c_Joins_join 30 = .ok (.iload_n 3, 1) := by decide +kernel
theorem d_Joins_join_31 : decode c_Joins_join 31 = .ok (.iload 4, 2) := by decide +kernel
theorem d_Joins_join_33 : decode c_Joins_join 33 = .ok (.invokestatic 31, 3) := by decide +kernel
theorem d_Joins_join_36 : decode c_Joins_join 36 = .ok (.istore 5, 2) := by decide +kernel
theorem d_Joins_join_38 : decode c_Joins_join 38 = .ok (.iload_n 3, 1) := by decide +kernel
theorem d_Joins_join_39 : decode c_Joins_join 39 = .ok (.iload 4, 2) := by decide +kernel
theorem d_Joins_join_41 : decode c_Joins_join 41 = .ok (.invokestatic 36, 3) := by decide +kernel
theorem d_Joins_join_44 : decode c_Joins_join 44 = .ok (.istore 6, 2) := by decide +kernel
theorem d_Joins_join_46 : decode c_Joins_join 46 = .ok (.aload_n 0, 1) := by decide +kernel
theorem d_Joins_join_47 : decode c_Joins_join 47 = .ok (.getfield 11, 3) := by decide +kernel
theorem d_Joins_join_50 : decode c_Joins_join 50 = .ok (.iload 6, 2) := by decide +kernel
theorem d_Joins_join_52 : decode c_Joins_join 52 = .ok (.bipush 11, 2) := by decide +kernel
theorem d_Joins_join_54 : decode c_Joins_join 54 = .ok (.ishr, 1) := by decide +kernel
theorem d_Joins_join_55 : decode c_Joins_join 55 = .ok (.aaload, 1) := by decide +kernel
theorem d_Joins_join_56 : decode c_Joins_join 56 = .ok (.iload 6, 2) := by decide +kernel
theorem d_Joins_join_58 : decode c_Joins_join 58 = .ok (.sipush 2047, 3) := by decide +kernel
theorem d_Joins_join_61 : decode c_Joins_join 61 = .ok (.iand, 1) := by decide +kernel
theorem d_Joins_join_62 : decode c_Joins_join 62 = .ok (.iload 5, 2) := by decide +kernel
theorem d_Joins_join_64 : decode c_Joins_join 64 = .ok (.iastore, 1) := by decide +kernel
theorem d_Joins_join_65 : decode c_Joins_join 65 = .ok (.return_, 1) := by decide +kernel
end
section
/-- NetJoins$Joins.node(II)I -/
def wp_Joins_node (post : Int32 → HS → Prop) (h : HS) (x0 : Int32) (x1 : Int32) : Prop :=
  post ((x0 <<< ((11 : Int32) &&& 31)) + x1) h
/-- NetJoins$Joins.scatterRow(I)V -/
def wb_Joins_scatterRow_9 (post : HS → Prop) (v0 : Nat) (K9 : Int32 × Option Nat × Int32 × HS → Prop) : Int32 × Option Nat × Int32 × HS → Prop := fun q => match q with
  | (x1, x2, x3, h) =>
  ∃ a1, x2 = some a1 ∧ gT h a1 ≠ 0 ∧ gT h a1 < 6 ∧ (((nI (gN h a1)) ≤ x3 → (post h)) ∧ (¬ (nI (gN h a1)) ≤ x3 → (wp_Joins_node (fun r4 h5 => ∃ a6, x2 = some a6 ∧ gT h5 a6 = 1 ∧ vp_in x3 (gN h5 a6) ∧ (∀ h8, h8 = sA h5 a6 x3.toNatClampNeg r4 → (∀ y9, y9 = x3 + (1 : Int32) → (K9 (x1, x2, y9, h8))))) h x1 x3)))
def wp_Joins_scatterRow (post : HS → Prop) (h : HS) (v0 : Nat) (x1 : Int32) : Prop :=
  gT h v0 = 18 ∧ (∃ a2, (gR h 200 v0) = some a2 ∧ gT h a2 = 5 ∧ vp_in x1 (gN h a2) ∧ (∀ y4, y4 = (gQ h a2 x1.toNatClampNeg) → (lp (wb_Joins_scatterRow_9 post v0) (x1, y4, (0 : Int32), h))))
/-- NetJoins$Joins.has(I)Z -/
def wp_Joins_has (post : Int32 → HS → Prop) (h : HS) (v0 : Nat) (x1 : Int32) : Prop :=
  ∀ y1, y1 = (x1 >>> ((11 : Int32) &&& 31)) → ((y1 < 0 → (post (0 : Int32) h)) ∧ (¬ y1 < 0 → (gT h v0 = 18 ∧ (∃ a4, (gR h 200 v0) = some a4 ∧ gT h a4 ≠ 0 ∧ gT h a4 < 6 ∧ (((nI (gN h a4)) ≤ y1 → (post (0 : Int32) h)) ∧ (¬ (nI (gN h a4)) ≤ y1 → (gT h v0 = 18 ∧ (∃ a8, (gR h 200 v0) = some a8 ∧ gT h a8 = 5 ∧ vp_in y1 (gN h a8) ∧ (∃ a10, (gQ h a8 y1.toNatClampNeg) = some a10 ∧ gT h a10 ≠ 0 ∧ gT h a10 < 6 ∧ (((nI (gN h a10)) ≤ (x1 &&& (2047 : Int32)) → (post (0 : Int32) h)) ∧ (¬ (nI (gN h a10)) ≤ (x1 &&& (2047 : Int32)) → (post (1 : Int32) h))))))))))))
/-- NetJoins$Joins.climb(I)I -/
def wb_Joins_climb_4 (post : Int32 → HS → Prop) (v0 : Nat) (K4 : Int32 × Int32 × HS → Prop) : Int32 × Int32 × HS → Prop := fun q => match q with
  | (x2, x3, h) =>
  ((1000000 : Int32) ≤ x3 → (post x2 h)) ∧ (¬ (1000000 : Int32) ≤ x3 → (gT h v0 = 18 ∧ (∃ a3, (gR h 200 v0) = some a3 ∧ gT h a3 = 5 ∧ vp_in (x2 >>> ((11 : Int32) &&& 31)) (gN h a3) ∧ (∃ a5, (gQ h a3 (x2 >>> ((11 : Int32) &&& 31)).toNatClampNeg) = some a5 ∧ gT h a5 = 1 ∧ vp_in (x2 &&& (2047 : Int32)) (gN h a5) ∧ (∀ y7, y7 = (gA h a5 (x2 &&& (2047 : Int32)).toNatClampNeg) → ((¬ y7 = x2 → (gT h v0 = 18 ∧ (∃ a10, (gR h 200 v0) = some a10 ∧ gT h a10 = 5 ∧ vp_in (y7 >>> ((11 : Int32) &&& 31)) (gN h a10) ∧ (∃ a12, (gQ h a10 (y7 >>> ((11 : Int32) &&& 31)).toNatClampNeg) = some a12 ∧ gT h a12 = 1 ∧ vp_in (y7 &&& (2047 : Int32)) (gN h a12) ∧ (∀ y14, y14 = (gA h a12 (y7 &&& (2047 : Int32)).toNatClampNeg) → (gT h v0 = 18 ∧ (∃ a16, (gR h 200 v0) = some a16 ∧ gT h a16 = 5 ∧ vp_in (x2 >>> ((11 : Int32) &&& 31)) (gN h a16) ∧ (∃ a18, (gQ h a16 (x2 >>> ((11 : Int32) &&& 31)).toNatClampNeg) = some a18 ∧ gT h a18 = 1 ∧ vp_in (x2 &&& (2047 : Int32)) (gN h a18) ∧ (∀ h20, h20 = sA h a18 (x2 &&& (2047 : Int32)).toNatClampNeg y14 → (∀ y21, y21 = x3 + (1 : Int32) → (K4 (y14, y21, h20)))))))))))) ∧ (y7 = x2 → (post x2 h))))))))
def wp_Joins_climb (post : Int32 → HS → Prop) (h : HS) (v0 : Nat) (x1 : Int32) : Prop :=
  lp (wb_Joins_climb_4 post v0) (x1, (0 : Int32), h)
/-- NetJoins$Joins.root(I)I -/
def wp_Joins_root (post : Int32 → HS → Prop) (h : HS) (v0 : Nat) (x1 : Int32) : Prop :=
  gT h v0 = 18 ∧ (wp_Joins_has (fun r1 h2 => (r1 = 0 → (post x1 h2)) ∧ (¬ r1 = 0 → (gT h2 v0 = 18 ∧ (wp_Joins_climb (fun r5 h6 => post r5 h6) h2 v0 x1)))) h v0 x1)
/-- NetJoins$Joins.join(II)V -/
def wp_Joins_join (post : HS → Prop) (h : HS) (v0 : Nat) (x1 : Int32) (x2 : Int32) : Prop :=
  gT h v0 = 18 ∧ (wp_Joins_has (fun r1 h2 => (r1 = 0 → (post h2)) ∧ (¬ r1 = 0 → (gT h2 v0 = 18 ∧ (wp_Joins_has (fun r5 h6 => (¬ r5 = 0 → (gT h6 v0 = 18 ∧ (wp_Joins_climb (fun r9 h10 => gT h10 v0 = 18 ∧ (wp_Joins_climb (fun r12 h13 => ∀ y15, y15 = (if r12 < r9 then r12 else r9) → (∀ y16, y16 = (if r9 < r12 then r12 else r9) → (gT h13 v0 = 18 ∧ (∃ a18, (gR h13 200 v0) = some a18 ∧ gT h13 a18 = 5 ∧ vp_in (y16 >>> ((11 : Int32) &&& 31)) (gN h13 a18) ∧ (∃ a20, (gQ h13 a18 (y16 >>> ((11 : Int32) &&& 31)).toNatClampNeg) = some a20 ∧ gT h13 a20 = 1 ∧ vp_in (y16 &&& (2047 : Int32)) (gN h13 a20) ∧ (∀ h22, h22 = sA h13 a20 (y16 &&& (2047 : Int32)).toNatClampNeg y15 → (post h22))))))) h10 v0 x2)) h6 v0 x1))) ∧ (r5 = 0 → (post h6))) h2 v0 x2)))) h v0 x1)
end
section
set_option maxHeartbeats 4000000 in
set_option maxRecDepth 100000 in
theorem mt_Joins_node (l : Launch) (D : va_G) (cs : CS) (Z : Nat → Nat) (sz : Nat) {post : Int32 → HS → Prop} {h : HS} {x0 : Int32} {x1 : Int32} (hw : wp_Joins_node post h x0 x1) : Met l y_Joins_node (Cond.code y_Joins_node c_Joins_node 2 (some .int) :: WA) ({ frames := 2, cells := 0, slots := 0, locals := 100 } : Room) (mPc D cs Z h sz [.int x0, .int x1]) (va_Qi post (mB D cs h sz) (fA h sz)) 0 0 (fA h sz) := by
  refine mx_met (fun sz => va_Qi post (mB D cs h sz) (fA h sz)) (by decide) (by simp [lg_sl, mx_rf_cat, cat_i, cat_l]) ?_
  intro p e s m args below meth c C hR ls hl
  have hl : lv_has ls 2 [(0, .int x0), (1, .int x1)] := hl
  obtain ⟨hx, hb, hr, hml, hown, hW, hlocks, hnm, hK, hZ⟩ := id C
  have hown : s.vm.findClass "NetJoins$Joins" = some m.cls := hown
  have hA : ∀ q, s.heap.size ≤ q → fA h s.heap.size q := fun _ h => Or.inr h
  unfold wp_Joins_node at hw
  refine lv_iload_n hx hb d_Joins_node_0 rfl (lv_at hl 0 rfl) ?_
  refine lv_bipush (v := 11) hx hb d_Joins_node_1 (by decide) ?_
  refine lv_ishl hx hb d_Joins_node_3 ?_
  refine lv_iload_n hx hb d_Joins_node_4 rfl (lv_at hl 1 rfl) ?_
  refine lv_iadd hx hb d_Joins_node_5 ?_
  exact mx_iret hx hb hr hlocks hR hw d_Joins_node_6
set_option maxHeartbeats 4000000 in
set_option maxRecDepth 100000 in
theorem mn_Joins_scatterRow_9 {D : va_G} {cs : CS} {Z : Nat → Nat} {h0 : HS} {p : Program} {l : Launch} {e : Env} {s : State} {m : MethodId} {args : Array Value} {below : List Frame} {meth : Method} {c : Code} {v0 : Nat} (C : mC D cs Z h0 y_Joins_scatterRow c_Joins_scatterRow 4 none p s m args meth c) (post : HS → Prop) : ∀ (n : Nat) (x1 : Int32) (x2 : Option Nat) (x3 : Int32) (h : HS) (H : Heap) (locs : List Loc) (ls : Array Slot), lpF (wb_Joins_scatterRow_9 post v0) n (x1, x2, x3, h) → lv_has ls 4 [(1, .int x1), (2, va_rf x2), (3, .int x3)] → mR D cs (fA h0 s.heap.size) h s.heap H locs → W p l e ({ frames := 3, cells := 0, slots := 0, locals := 121 } : Room) s m args below meth c H locs 0 0 (MQ below (va_Qv post (mB D cs h0 s.heap.size) (fA h0 s.heap.size)) args s 0 0 (fA h0 s.heap.size)) (F0 m 9 ls []) := by
  obtain ⟨hx, hb, hr, hml, hown, hW, hlocks, hnm, hK, hZ⟩ := id C
  have hown : s.vm.findClass "NetJoins$Joins" = some m.cls := hown
  have hA : ∀ q, s.heap.size ≤ q → fA h0 s.heap.size q := fun _ h => Or.inr h
  intro n
  induction n with
  | zero => intro x1 x2 x3 h H locs ls hw; exact hw.elim
  | succ n ih =>
    intro x1 x2 x3 h H locs ls hw hl hR
    have hw : wb_Joins_scatterRow_9 post v0 (lpF (wb_Joins_scatterRow_9 post v0) n) (x1, x2, x3, h) := hw
    unfold wb_Joins_scatterRow_9 at hw
    dsimp only at hw
    refine lv_iload_n hx hb d_Joins_scatterRow_9 rfl (lv_at hl 2 rfl) ?_
    refine mx_aload_n (r := x2) hx hb d_Joins_scatterRow_10 rfl (lv_at hl 1 rfl) ?_
    obtain ⟨a1, ea1, t2, t2i, hw⟩ := hw
    refine mx_alen hx hb hK.1 hR (a := a1) ea1 t2 t2i d_Joins_scatterRow_11 ?_
    refine lv_icmp_ge (tgt := 29) hx hb d_Joins_scatterRow_12 (by decide) (fun c3 => ?_) (fun c3 => ?_)
    · have hw := hw.1 c3
      exact mx_vret hx hb hr hlocks hR hw d_Joins_scatterRow_29
    · have hw := hw.2 c3
      refine mx_aload_n (r := x2) hx hb d_Joins_scatterRow_15 rfl (lv_at hl 1 rfl) ?_
      refine lv_iload_n hx hb d_Joins_scatterRow_16 rfl (lv_at hl 2 rfl) ?_
      refine lv_iload_n hx hb d_Joins_scatterRow_17 rfl (lv_at hl 0 rfl) ?_
      refine lv_iload_n hx hb d_Joins_scatterRow_18 rfl (lv_at hl 2 rfl) ?_
      refine mx_calli (va_runS (As := [.int x1, .int x3]) (rest := [.int x3, va_rf x2]) ⟨hx, hb, hml, hown, hW⟩ (mt_Joins_node l D cs Z _ hw) (mx_cwS hW ok_Joins_node kw_77 rfl rfl ⟨Nat.le_of_ble_eq_true rfl, Nat.le_of_ble_eq_true rfl⟩) (mx_preS hK hZ hA hR) rfl rfl hl.1 rfl (lv_room (by simp [mx_rf_cat, cat_i, cat_l])) d_Joins_scatterRow_19 ⟨Nat.le_of_ble_eq_true rfl, Nat.le_of_ble_eq_true rfl⟩) hR hA (fun r4 h5 H locs hw hR => ?_)
      try dsimp only at hw
      obtain ⟨a6, ea6, t7, t7i, hw⟩ := hw
      refine mx_iast hx hb hK.1 hR (a := a6) ea6 t7 t7i d_Joins_scatterRow_22 (fun H locs hR => ?_)
      obtain ⟨h8, eh8⟩ : ∃ z, z = sA h5 a6 x3.toNatClampNeg r4 := ⟨_, rfl⟩
      rw [← eh8] at hR
      have hw := hw h8 eh8
      obtain ⟨y9, ey9⟩ : ∃ y : Int32, y = x3 + (1 : Int32) := ⟨_, rfl⟩
      have hw := hw y9 ey9
      refine lv_iinc (v := y9) (lv' := [(3, .int y9), (1, .int x1), (2, va_rf x2)]) hx hb d_Joins_scatterRow_23 hl (k := 2) rfl (by rw [ey9]; rfl) (by decide) (by simp [mx_rf_cat]) (fun ls hl => ?_)
      refine lv_goto (tgt := 9) hx hb d_Joins_scatterRow_26 (by decide) ?_
      exact ih x1 x2 y9 _ _ _ _ hw (lv_sub hl [1, 2, 0] rfl) hR
set_option maxHeartbeats 4000000 in
set_option maxRecDepth 100000 in
theorem mt_Joins_scatterRow (l : Launch) (D : va_G) (cs : CS) (Z : Nat → Nat) (sz : Nat) {post : HS → Prop} {h : HS} {v0 : Nat} {x1 : Int32} (hw : wp_Joins_scatterRow post h v0 x1) : Met l y_Joins_scatterRow (Cond.code y_Joins_scatterRow c_Joins_scatterRow 4 none :: WA) ({ frames := 3, cells := 0, slots := 0, locals := 121 } : Room) (mPc D cs Z h sz [va_rf (some v0), .int x1]) (va_Qv post (mB D cs h sz) (fA h sz)) 0 0 (fA h sz) := by
  refine mx_met (fun sz => va_Qv post (mB D cs h sz) (fA h sz)) (by decide) (by simp [lg_sl, mx_rf_cat, cat_i, cat_l]) ?_
  intro p e s m args below meth c C hR ls hl
  have hl : lv_has ls 4 [(0, va_rf (some v0)), (1, .int x1)] := hl
  obtain ⟨hx, hb, hr, hml, hown, hW, hlocks, hnm, hK, hZ⟩ := id C
  have hown : s.vm.findClass "NetJoins$Joins" = some m.cls := hown
  have hA : ∀ q, s.heap.size ≤ q → fA h s.heap.size q := fun _ h => Or.inr h
  unfold wp_Joins_scatterRow at hw
  refine mx_aload_n (r := some v0) hx hb d_Joins_scatterRow_0 rfl (lv_at hl 0 rfl) ?_
  obtain ⟨t1, hw⟩ := hw
  refine mx_get (ci := 2) (C := "NetJoins$Joins") (T := F_Joins) (N := 1) hx hb hW hown hK.1 hR (a := v0) rfl t1 rfl i_Joins 0 2 (by decide) rfl kw_80 (fun _ h9 => h9) d_Joins_scatterRow_1 ?_
  refine lv_iload_n hx hb d_Joins_scatterRow_4 rfl (lv_at hl 1 rfl) ?_
  obtain ⟨a2, ea2, t3, t3i, hw⟩ := hw
  refine mx_rald hx hb hK.1 hR (a := a2) ea2 t3 t3i d_Joins_scatterRow_5 ?_
  refine mx_topr (fun y4 ey4 => ?_)
  have hw := hw y4 ey4
  refine mx_astore_n (i := 2) (r := y4) (lv' := [(2, va_rf y4), (0, va_rf (some v0)), (1, .int x1)]) hx hb d_Joins_scatterRow_6 rfl hl (by decide) rfl (fun ls hl => ?_)
  refine lv_iconst (v := 0) hx hb d_Joins_scatterRow_7 (by decide) ?_
  refine lv_istore_n (i := 3) (lv' := [(3, .int (0 : Int32)), (2, va_rf y4), (0, va_rf (some v0)), (1, .int x1)]) hx hb d_Joins_scatterRow_8 rfl hl (by decide) (by simp [mx_rf_cat]) (fun ls hl => ?_)
  obtain ⟨n9, hw⟩ := hw
  exact mn_Joins_scatterRow_9 C post n9 x1 y4 (0 : Int32) _ _ _ _ hw (lv_sub hl [3, 1, 0] rfl) hR
set_option maxHeartbeats 4000000 in
set_option maxRecDepth 100000 in
theorem mt_Joins_has (l : Launch) (D : va_G) (cs : CS) (Z : Nat → Nat) (sz : Nat) {post : Int32 → HS → Prop} {h : HS} {v0 : Nat} {x1 : Int32} (hw : wp_Joins_has post h v0 x1) : Met l y_Joins_has (Cond.code y_Joins_has c_Joins_has 3 (some .boolean) :: WA) ({ frames := 2, cells := 0, slots := 0, locals := 100 } : Room) (mPc D cs Z h sz [va_rf (some v0), .int x1]) (va_Qi post (mB D cs h sz) (fA h sz)) 0 0 (fA h sz) := by
  refine mx_met (fun sz => va_Qi post (mB D cs h sz) (fA h sz)) (by decide) (by simp [lg_sl, mx_rf_cat, cat_i, cat_l]) ?_
  intro p e s m args below meth c C hR ls hl
  have hl : lv_has ls 3 [(0, va_rf (some v0)), (1, .int x1)] := hl
  obtain ⟨hx, hb, hr, hml, hown, hW, hlocks, hnm, hK, hZ⟩ := id C
  have hown : s.vm.findClass "NetJoins$Joins" = some m.cls := hown
  have hA : ∀ q, s.heap.size ≤ q → fA h s.heap.size q := fun _ h => Or.inr h
  unfold wp_Joins_has at hw
  refine lv_iload_n hx hb d_Joins_has_0 rfl (lv_at hl 1 rfl) ?_
  refine lv_bipush (v := 11) hx hb d_Joins_has_1 (by decide) ?_
  refine lv_ishr hx hb d_Joins_has_3 ?_
  refine lv_topi (fun y1 ey1 => ?_)
  have hw := hw y1 ey1
  refine lv_istore_n (i := 2) (lv' := [(2, .int y1), (0, va_rf (some v0)), (1, .int x1)]) hx hb d_Joins_has_4 rfl hl (by decide) rfl (fun ls hl => ?_)
  refine lv_iload_n hx hb d_Joins_has_5 rfl (lv_at hl 0 rfl) ?_
  refine lv_if_lt (tgt := 37) hx hb d_Joins_has_6 (by decide) (fun c2 => ?_) (fun c2 => ?_)
  · have hw := hw.1 c2
    refine lv_iconst (v := 0) hx hb d_Joins_has_37 (by decide) ?_
    exact mx_zret hx hb hr hlocks hR (Or.inl rfl) hw d_Joins_has_38
  · have hw := hw.2 c2
    refine lv_iload_n hx hb d_Joins_has_9 rfl (lv_at hl 0 rfl) ?_
    refine mx_aload_n (r := some v0) hx hb d_Joins_has_10 rfl (lv_at hl 1 rfl) ?_
    obtain ⟨t3, hw⟩ := hw
    refine mx_get (ci := 2) (C := "NetJoins$Joins") (T := F_Joins) (N := 1) hx hb hW hown hK.1 hR (a := v0) rfl t3 rfl i_Joins 0 2 (by decide) rfl kw_80 (fun _ h9 => h9) d_Joins_has_11 ?_
    obtain ⟨a4, ea4, t5, t5i, hw⟩ := hw
    refine mx_alen hx hb hK.1 hR (a := a4) ea4 t5 t5i d_Joins_has_14 ?_
    refine lv_icmp_ge (tgt := 37) hx hb d_Joins_has_15 (by decide) (fun c6 => ?_) (fun c6 => ?_)
    · have hw := hw.1 c6
      refine lv_iconst (v := 0) hx hb d_Joins_has_37 (by decide) ?_
      exact mx_zret hx hb hr hlocks hR (Or.inl rfl) hw d_Joins_has_38
    · have hw := hw.2 c6
      refine lv_iload_n hx hb d_Joins_has_18 rfl (lv_at hl 2 rfl) ?_
      refine lv_sipush (v := 2047) hx hb d_Joins_has_19 (by decide) ?_
      refine lv_iand hx hb d_Joins_has_22 ?_
      refine mx_aload_n (r := some v0) hx hb d_Joins_has_23 rfl (lv_at hl 1 rfl) ?_
      obtain ⟨t7, hw⟩ := hw
      refine mx_get (ci := 2) (C := "NetJoins$Joins") (T := F_Joins) (N := 1) hx hb hW hown hK.1 hR (a := v0) rfl t7 rfl i_Joins 0 2 (by decide) rfl kw_80 (fun _ h9 => h9) d_Joins_has_24 ?_
      refine lv_iload_n hx hb d_Joins_has_27 rfl (lv_at hl 0 rfl) ?_
      obtain ⟨a8, ea8, t9, t9i, hw⟩ := hw
      refine mx_rald hx hb hK.1 hR (a := a8) ea8 t9 t9i d_Joins_has_28 ?_
      obtain ⟨a10, ea10, t11, t11i, hw⟩ := hw
      refine mx_alen hx hb hK.1 hR (a := a10) ea10 t11 t11i d_Joins_has_29 ?_
      refine lv_icmp_ge (tgt := 37) hx hb d_Joins_has_30 (by decide) (fun c12 => ?_) (fun c12 => ?_)
      · have hw := hw.1 c12
        refine lv_iconst (v := 0) hx hb d_Joins_has_37 (by decide) ?_
        exact mx_zret hx hb hr hlocks hR (Or.inl rfl) hw d_Joins_has_38
      · have hw := hw.2 c12
        refine lv_iconst (v := 1) hx hb d_Joins_has_33 (by decide) ?_
        refine lv_goto (tgt := 38) hx hb d_Joins_has_34 (by decide) ?_
        exact mx_zret hx hb hr hlocks hR (Or.inr rfl) hw d_Joins_has_38
set_option maxHeartbeats 4000000 in
set_option maxRecDepth 100000 in
theorem mn_Joins_climb_4 {D : va_G} {cs : CS} {Z : Nat → Nat} {h0 : HS} {p : Program} {l : Launch} {e : Env} {s : State} {m : MethodId} {args : Array Value} {below : List Frame} {meth : Method} {c : Code} {v0 : Nat} (C : mC D cs Z h0 y_Joins_climb c_Joins_climb 6 (some .int) p s m args meth c) (post : Int32 → HS → Prop) : ∀ (n : Nat) (x2 : Int32) (x3 : Int32) (h : HS) (H : Heap) (locs : List Loc) (ls : Array Slot), lpF (wb_Joins_climb_4 post v0) n (x2, x3, h) → lv_has ls 6 [(0, va_rf (some v0)), (2, .int x2), (3, .int x3)] → mR D cs (fA h0 s.heap.size) h s.heap H locs → W p l e ({ frames := 2, cells := 0, slots := 0, locals := 100 } : Room) s m args below meth c H locs 0 0 (MQ below (va_Qi post (mB D cs h0 s.heap.size) (fA h0 s.heap.size)) args s 0 0 (fA h0 s.heap.size)) (F0 m 4 ls []) := by
  obtain ⟨hx, hb, hr, hml, hown, hW, hlocks, hnm, hK, hZ⟩ := id C
  have hown : s.vm.findClass "NetJoins$Joins" = some m.cls := hown
  have hA : ∀ q, s.heap.size ≤ q → fA h0 s.heap.size q := fun _ h => Or.inr h
  intro n
  induction n with
  | zero => intro x2 x3 h H locs ls hw; exact hw.elim
  | succ n ih =>
    intro x2 x3 h H locs ls hw hl hR
    have hw : wb_Joins_climb_4 post v0 (lpF (wb_Joins_climb_4 post v0) n) (x2, x3, h) := hw
    unfold wb_Joins_climb_4 at hw
    dsimp only at hw
    refine lv_iload_n hx hb d_Joins_climb_4 rfl (lv_at hl 2 rfl) ?_
    refine lv_ldc hx hb hown (hW _ kw_235) d_Joins_climb_5 ?_
    refine lv_icmp_ge (tgt := 81) hx hb d_Joins_climb_7 (by decide) (fun c1 => ?_) (fun c1 => ?_)
    · have hw := hw.1 c1
      refine lv_iload_n hx hb d_Joins_climb_81 rfl (lv_at hl 1 rfl) ?_
      exact mx_iret hx hb hr hlocks hR hw d_Joins_climb_82
    · have hw := hw.2 c1
      refine mx_aload_n (r := some v0) hx hb d_Joins_climb_10 rfl (lv_at hl 0 rfl) ?_
      obtain ⟨t2, hw⟩ := hw
      refine mx_get (ci := 2) (C := "NetJoins$Joins") (T := F_Joins) (N := 1) hx hb hW hown hK.1 hR (a := v0) rfl t2 rfl i_Joins 0 2 (by decide) rfl kw_80 (fun _ h9 => h9) d_Joins_climb_11 ?_
      refine lv_iload_n hx hb d_Joins_climb_14 rfl (lv_at hl 1 rfl) ?_
      refine lv_bipush (v := 11) hx hb d_Joins_climb_15 (by decide) ?_
      refine lv_ishr hx hb d_Joins_climb_17 ?_
      obtain ⟨a3, ea3, t4, t4i, hw⟩ := hw
      refine mx_rald hx hb hK.1 hR (a := a3) ea3 t4 t4i d_Joins_climb_18 ?_
      refine lv_iload_n hx hb d_Joins_climb_19 rfl (lv_at hl 1 rfl) ?_
      refine lv_sipush (v := 2047) hx hb d_Joins_climb_20 (by decide) ?_
      refine lv_iand hx hb d_Joins_climb_23 ?_
      obtain ⟨a5, ea5, t6, t6i, hw⟩ := hw
      refine mx_iald hx hb hK.1 hR (a := a5) ea5 t6 t6i d_Joins_climb_24 ?_
      refine lv_topi (fun y7 ey7 => ?_)
      have hw := hw y7 ey7
      refine lv_istore (i := 4) (lv' := [(4, .int y7), (0, va_rf (some v0)), (2, .int x2), (3, .int x3)]) hx hb d_Joins_climb_25 hl (by decide) rfl (fun ls hl => ?_)
      refine lv_iload hx hb d_Joins_climb_27 (lv_at hl 0 rfl) ?_
      refine lv_iload_n hx hb d_Joins_climb_29 rfl (lv_at hl 2 rfl) ?_
      refine lv_icmp_ne (tgt := 36) hx hb d_Joins_climb_30 (by decide) (fun c8 => ?_) (fun c8 => ?_)
      · have hw := hw.1 c8
        refine mx_aload_n (r := some v0) hx hb d_Joins_climb_36 rfl (lv_at hl 1 rfl) ?_
        obtain ⟨t9, hw⟩ := hw
        refine mx_get (ci := 2) (C := "NetJoins$Joins") (T := F_Joins) (N := 1) hx hb hW hown hK.1 hR (a := v0) rfl t9 rfl i_Joins 0 2 (by decide) rfl kw_80 (fun _ h9 => h9) d_Joins_climb_37 ?_
        refine lv_iload hx hb d_Joins_climb_40 (lv_at hl 0 rfl) ?_
        refine lv_bipush (v := 11) hx hb d_Joins_climb_42 (by decide) ?_
        refine lv_ishr hx hb d_Joins_climb_44 ?_
        obtain ⟨a10, ea10, t11, t11i, hw⟩ := hw
        refine mx_rald hx hb hK.1 hR (a := a10) ea10 t11 t11i d_Joins_climb_45 ?_
        refine lv_iload hx hb d_Joins_climb_46 (lv_at hl 0 rfl) ?_
        refine lv_sipush (v := 2047) hx hb d_Joins_climb_48 (by decide) ?_
        refine lv_iand hx hb d_Joins_climb_51 ?_
        obtain ⟨a12, ea12, t13, t13i, hw⟩ := hw
        refine mx_iald hx hb hK.1 hR (a := a12) ea12 t13 t13i d_Joins_climb_52 ?_
        refine lv_topi (fun y14 ey14 => ?_)
        have hw := hw y14 ey14
        refine lv_istore (i := 5) (lv' := [(5, .int y14), (4, .int y7), (0, va_rf (some v0)), (2, .int x2), (3, .int x3)]) hx hb d_Joins_climb_53 hl (by decide) rfl (fun ls hl => ?_)
        refine mx_aload_n (r := some v0) hx hb d_Joins_climb_55 rfl (lv_at hl 2 rfl) ?_
        obtain ⟨t15, hw⟩ := hw
        refine mx_get (ci := 2) (C := "NetJoins$Joins") (T := F_Joins) (N := 1) hx hb hW hown hK.1 hR (a := v0) rfl t15 rfl i_Joins 0 2 (by decide) rfl kw_80 (fun _ h9 => h9) d_Joins_climb_56 ?_
        refine lv_iload_n hx hb d_Joins_climb_59 rfl (lv_at hl 3 rfl) ?_
        refine lv_bipush (v := 11) hx hb d_Joins_climb_60 (by decide) ?_
        refine lv_ishr hx hb d_Joins_climb_62 ?_
        obtain ⟨a16, ea16, t17, t17i, hw⟩ := hw
        refine mx_rald hx hb hK.1 hR (a := a16) ea16 t17 t17i d_Joins_climb_63 ?_
        refine lv_iload_n hx hb d_Joins_climb_64 rfl (lv_at hl 3 rfl) ?_
        refine lv_sipush (v := 2047) hx hb d_Joins_climb_65 (by decide) ?_
        refine lv_iand hx hb d_Joins_climb_68 ?_
        refine lv_iload hx hb d_Joins_climb_69 (lv_at hl 0 rfl) ?_
        obtain ⟨a18, ea18, t19, t19i, hw⟩ := hw
        refine mx_iast hx hb hK.1 hR (a := a18) ea18 t19 t19i d_Joins_climb_71 (fun H locs hR => ?_)
        obtain ⟨h20, eh20⟩ : ∃ z, z = sA h a18 (x2 &&& (2047 : Int32)).toNatClampNeg y14 := ⟨_, rfl⟩
        rw [← eh20] at hR
        have hw := hw h20 eh20
        refine lv_iload hx hb d_Joins_climb_72 (lv_at hl 0 rfl) ?_
        refine lv_istore_n (i := 2) (lv' := [(2, .int y14), (5, .int y14), (4, .int y7), (0, va_rf (some v0)), (3, .int x3)]) hx hb d_Joins_climb_74 rfl hl (by decide) rfl (fun ls hl => ?_)
        obtain ⟨y21, ey21⟩ : ∃ y : Int32, y = x3 + (1 : Int32) := ⟨_, rfl⟩
        have hw := hw y21 ey21
        refine lv_iinc (v := y21) (lv' := [(3, .int y21), (2, .int y14), (5, .int y14), (4, .int y7), (0, va_rf (some v0))]) hx hb d_Joins_climb_75 hl (k := 4) rfl (by rw [ey21]; rfl) (by decide) rfl (fun ls hl => ?_)
        refine lv_goto (tgt := 4) hx hb d_Joins_climb_78 (by decide) ?_
        exact ih y14 y21 _ _ _ _ hw (lv_sub hl [4, 1, 0] rfl) hR
      · have hw := hw.2 c8
        refine lv_goto (tgt := 81) hx hb d_Joins_climb_33 (by decide) ?_
        refine lv_iload_n hx hb d_Joins_climb_81 rfl (lv_at hl 2 rfl) ?_
        exact mx_iret hx hb hr hlocks hR hw d_Joins_climb_82
set_option maxHeartbeats 4000000 in
set_option maxRecDepth 100000 in
theorem mt_Joins_climb (l : Launch) (D : va_G) (cs : CS) (Z : Nat → Nat) (sz : Nat) {post : Int32 → HS → Prop} {h : HS} {v0 : Nat} {x1 : Int32} (hw : wp_Joins_climb post h v0 x1) : Met l y_Joins_climb (Cond.code y_Joins_climb c_Joins_climb 6 (some .int) :: WA) ({ frames := 2, cells := 0, slots := 0, locals := 100 } : Room) (mPc D cs Z h sz [va_rf (some v0), .int x1]) (va_Qi post (mB D cs h sz) (fA h sz)) 0 0 (fA h sz) := by
  refine mx_met (fun sz => va_Qi post (mB D cs h sz) (fA h sz)) (by decide) (by simp [lg_sl, mx_rf_cat, cat_i, cat_l]) ?_
  intro p e s m args below meth c C hR ls hl
  have hl : lv_has ls 6 [(0, va_rf (some v0)), (1, .int x1)] := hl
  obtain ⟨hx, hb, hr, hml, hown, hW, hlocks, hnm, hK, hZ⟩ := id C
  have hown : s.vm.findClass "NetJoins$Joins" = some m.cls := hown
  have hA : ∀ q, s.heap.size ≤ q → fA h s.heap.size q := fun _ h => Or.inr h
  unfold wp_Joins_climb at hw
  refine lv_iload_n hx hb d_Joins_climb_0 rfl (lv_at hl 1 rfl) ?_
  refine lv_istore_n (i := 2) (lv' := [(2, .int x1), (0, va_rf (some v0)), (1, .int x1)]) hx hb d_Joins_climb_1 rfl hl (by decide) rfl (fun ls hl => ?_)
  refine lv_iconst (v := 0) hx hb d_Joins_climb_2 (by decide) ?_
  refine lv_istore_n (i := 3) (lv' := [(3, .int (0 : Int32)), (2, .int x1), (0, va_rf (some v0)), (1, .int x1)]) hx hb d_Joins_climb_3 rfl hl (by decide) rfl (fun ls hl => ?_)
  obtain ⟨n9, hw⟩ := hw
  exact mn_Joins_climb_4 C post n9 x1 (0 : Int32) _ _ _ _ hw (lv_sub hl [2, 1, 0] rfl) hR
set_option maxHeartbeats 4000000 in
set_option maxRecDepth 100000 in
theorem mt_Joins_root (l : Launch) (D : va_G) (cs : CS) (Z : Nat → Nat) (sz : Nat) {post : Int32 → HS → Prop} {h : HS} {v0 : Nat} {x1 : Int32} (hw : wp_Joins_root post h v0 x1) : Met l y_Joins_root (Cond.code y_Joins_root c_Joins_root 2 (some .int) :: WA) ({ frames := 3, cells := 0, slots := 0, locals := 125 } : Room) (mPc D cs Z h sz [va_rf (some v0), .int x1]) (va_Qi post (mB D cs h sz) (fA h sz)) 0 0 (fA h sz) := by
  refine mx_met (fun sz => va_Qi post (mB D cs h sz) (fA h sz)) (by decide) (by simp [lg_sl, mx_rf_cat, cat_i, cat_l]) ?_
  intro p e s m args below meth c C hR ls hl
  have hl : lv_has ls 2 [(0, va_rf (some v0)), (1, .int x1)] := hl
  obtain ⟨hx, hb, hr, hml, hown, hW, hlocks, hnm, hK, hZ⟩ := id C
  have hown : s.vm.findClass "NetJoins$Joins" = some m.cls := hown
  have hA : ∀ q, s.heap.size ≤ q → fA h s.heap.size q := fun _ h => Or.inr h
  unfold wp_Joins_root at hw
  refine mx_aload_n (r := some v0) hx hb d_Joins_root_0 rfl (lv_at hl 0 rfl) ?_
  refine lv_iload_n hx hb d_Joins_root_1 rfl (lv_at hl 1 rfl) ?_
  obtain ⟨t3, hw⟩ := hw
  refine mx_calli (va_runV (b := v0) (As := [.int x1]) (rest := []) ⟨hx, hb, hml, hown, hW⟩ (mt_Joins_has l D cs Z _ hw) (mx_cwV hW ok_Joins_has kw_227 rfl rfl ⟨Nat.le_of_ble_eq_true rfl, Nat.le_of_ble_eq_true rfl⟩) (mx_preV hK hZ hA hR (ci := 2) rfl t3) rfl rfl hl.1 rfl (lv_room (Nat.le_of_ble_eq_true rfl)) d_Joins_root_2 ⟨Nat.le_of_ble_eq_true rfl, Nat.le_of_ble_eq_true rfl⟩) hR hA (fun r1 h2 H locs hw hR => ?_)
  try dsimp only at hw
  refine lv_if_eq (tgt := 16) hx hb d_Joins_root_5 (by decide) (fun c4 => ?_) (fun c4 => ?_)
  · have hw := hw.1 c4
    refine lv_iload_n hx hb d_Joins_root_16 rfl (lv_at hl 1 rfl) ?_
    exact mx_iret hx hb hr hlocks hR hw d_Joins_root_17
  · have hw := hw.2 c4
    refine mx_aload_n (r := some v0) hx hb d_Joins_root_8 rfl (lv_at hl 0 rfl) ?_
    refine lv_iload_n hx hb d_Joins_root_9 rfl (lv_at hl 1 rfl) ?_
    obtain ⟨t7, hw⟩ := hw
    refine mx_calli (va_runV (b := v0) (As := [.int x1]) (rest := []) ⟨hx, hb, hml, hown, hW⟩ (mt_Joins_climb l D cs Z _ hw) (mx_cwV hW ok_Joins_climb kw_231 rfl rfl ⟨Nat.le_of_ble_eq_true rfl, Nat.le_of_ble_eq_true rfl⟩) (mx_preV hK hZ hA hR (ci := 2) rfl t7) rfl rfl hl.1 rfl (lv_room (Nat.le_of_ble_eq_true rfl)) d_Joins_root_10 ⟨Nat.le_of_ble_eq_true rfl, Nat.le_of_ble_eq_true rfl⟩) hR hA (fun r5 h6 H locs hw hR => ?_)
    try dsimp only at hw
    refine lv_goto (tgt := 17) hx hb d_Joins_root_13 (by decide) ?_
    exact mx_iret hx hb hr hlocks hR hw d_Joins_root_17
set_option maxHeartbeats 4000000 in
set_option maxRecDepth 100000 in
theorem mt_Joins_join (l : Launch) (D : va_G) (cs : CS) (Z : Nat → Nat) (sz : Nat) {post : HS → Prop} {h : HS} {v0 : Nat} {x1 : Int32} {x2 : Int32} (hw : wp_Joins_join post h v0 x1 x2) : Met l y_Joins_join (Cond.code y_Joins_join c_Joins_join 7 none :: WA) ({ frames := 3, cells := 0, slots := 0, locals := 125 } : Room) (mPc D cs Z h sz [va_rf (some v0), .int x1, .int x2]) (va_Qv post (mB D cs h sz) (fA h sz)) 0 0 (fA h sz) := by
  refine mx_met (fun sz => va_Qv post (mB D cs h sz) (fA h sz)) (by decide) (by simp [lg_sl, mx_rf_cat, cat_i, cat_l]) ?_
  intro p e s m args below meth c C hR ls hl
  have hl : lv_has ls 7 [(0, va_rf (some v0)), (1, .int x1), (2, .int x2)] := hl
  obtain ⟨hx, hb, hr, hml, hown, hW, hlocks, hnm, hK, hZ⟩ := id C
  have hown : s.vm.findClass "NetJoins$Joins" = some m.cls := hown
  have hA : ∀ q, s.heap.size ≤ q → fA h s.heap.size q := fun _ h => Or.inr h
  unfold wp_Joins_join at hw
  refine mx_aload_n (r := some v0) hx hb d_Joins_join_0 rfl (lv_at hl 0 rfl) ?_
  refine lv_iload_n hx hb d_Joins_join_1 rfl (lv_at hl 1 rfl) ?_
  obtain ⟨t3, hw⟩ := hw
  refine mx_calli (va_runV (b := v0) (As := [.int x1]) (rest := []) ⟨hx, hb, hml, hown, hW⟩ (mt_Joins_has l D cs Z _ hw) (mx_cwV hW ok_Joins_has kw_227 rfl rfl ⟨Nat.le_of_ble_eq_true rfl, Nat.le_of_ble_eq_true rfl⟩) (mx_preV hK hZ hA hR (ci := 2) rfl t3) rfl rfl hl.1 rfl (lv_room (Nat.le_of_ble_eq_true rfl)) d_Joins_join_2 ⟨Nat.le_of_ble_eq_true rfl, Nat.le_of_ble_eq_true rfl⟩) hR hA (fun r1 h2 H locs hw hR => ?_)
  try dsimp only at hw
  refine lv_if_eq (tgt := 16) hx hb d_Joins_join_5 (by decide) (fun c4 => ?_) (fun c4 => ?_)
  · have hw := hw.1 c4
    exact mx_vret hx hb hr hlocks hR hw d_Joins_join_16
  · have hw := hw.2 c4
    refine mx_aload_n (r := some v0) hx hb d_Joins_join_8 rfl (lv_at hl 0 rfl) ?_
    refine lv_iload_n hx hb d_Joins_join_9 rfl (lv_at hl 2 rfl) ?_
    obtain ⟨t7, hw⟩ := hw
    refine mx_calli (va_runV (b := v0) (As := [.int x2]) (rest := []) ⟨hx, hb, hml, hown, hW⟩ (mt_Joins_has l D cs Z _ hw) (mx_cwV hW ok_Joins_has kw_227 rfl rfl ⟨Nat.le_of_ble_eq_true rfl, Nat.le_of_ble_eq_true rfl⟩) (mx_preV hK hZ hA hR (ci := 2) rfl t7) rfl rfl hl.1 rfl (lv_room (Nat.le_of_ble_eq_true rfl)) d_Joins_join_10 ⟨Nat.le_of_ble_eq_true rfl, Nat.le_of_ble_eq_true rfl⟩) hR hA (fun r5 h6 H locs hw hR => ?_)
    try dsimp only at hw
    refine lv_if_ne (tgt := 17) hx hb d_Joins_join_13 (by decide) (fun c8 => ?_) (fun c8 => ?_)
    · have hw := hw.1 c8
      refine mx_aload_n (r := some v0) hx hb d_Joins_join_17 rfl (lv_at hl 0 rfl) ?_
      refine lv_iload_n hx hb d_Joins_join_18 rfl (lv_at hl 1 rfl) ?_
      obtain ⟨t11, hw⟩ := hw
      refine mx_calli (va_runV (b := v0) (As := [.int x1]) (rest := []) ⟨hx, hb, hml, hown, hW⟩ (mt_Joins_climb l D cs Z _ hw) (mx_cwV hW ok_Joins_climb kw_231 rfl rfl ⟨Nat.le_of_ble_eq_true rfl, Nat.le_of_ble_eq_true rfl⟩) (mx_preV hK hZ hA hR (ci := 2) rfl t11) rfl rfl hl.1 rfl (lv_room (Nat.le_of_ble_eq_true rfl)) d_Joins_join_19 ⟨Nat.le_of_ble_eq_true rfl, Nat.le_of_ble_eq_true rfl⟩) hR hA (fun r9 h10 H locs hw hR => ?_)
      try dsimp only at hw
      refine lv_istore_n (i := 3) (lv' := [(3, .int r9), (0, va_rf (some v0)), (1, .int x1), (2, .int x2)]) hx hb d_Joins_join_22 rfl hl (by decide) rfl (fun ls hl => ?_)
      refine mx_aload_n (r := some v0) hx hb d_Joins_join_23 rfl (lv_at hl 1 rfl) ?_
      refine lv_iload_n hx hb d_Joins_join_24 rfl (lv_at hl 3 rfl) ?_
      obtain ⟨t14, hw⟩ := hw
      refine mx_calli (va_runV (b := v0) (As := [.int x2]) (rest := []) ⟨hx, hb, hml, hown, hW⟩ (mt_Joins_climb l D cs Z _ hw) (mx_cwV hW ok_Joins_climb kw_231 rfl rfl ⟨Nat.le_of_ble_eq_true rfl, Nat.le_of_ble_eq_true rfl⟩) (mx_preV hK hZ hA hR (ci := 2) rfl t14) rfl rfl hl.1 rfl (lv_room (Nat.le_of_ble_eq_true rfl)) d_Joins_join_25 ⟨Nat.le_of_ble_eq_true rfl, Nat.le_of_ble_eq_true rfl⟩) hR hA (fun r12 h13 H locs hw hR => ?_)
      try dsimp only at hw
      refine lv_istore (i := 4) (lv' := [(4, .int r12), (3, .int r9), (0, va_rf (some v0)), (1, .int x1), (2, .int x2)]) hx hb d_Joins_join_28 hl (by decide) rfl (fun ls hl => ?_)
      refine lv_iload_n hx hb d_Joins_join_30 rfl (lv_at hl 1 rfl) ?_
      refine lv_iload hx hb d_Joins_join_31 (lv_at hl 0 rfl) ?_
      refine va_mmin hx hb (by rw [hml]; exact hl.1.symm) hown (hW _ kw_330) (hW _ kw_331) (hW _ kw_18) (hW _ kw_332) (Nat.le_of_ble_eq_true rfl) (Nat.le_of_ble_eq_true rfl) (Nat.le_of_ble_eq_true rfl) (Nat.le_of_ble_eq_true rfl) d_Joins_join_33 ?_
      refine lv_topi (fun y15 ey15 => ?_)
      have hw := hw y15 ey15
      refine lv_istore (i := 5) (lv' := [(5, .int y15), (4, .int r12), (3, .int r9), (0, va_rf (some v0)), (1, .int x1), (2, .int x2)]) hx hb d_Joins_join_36 hl (by decide) rfl (fun ls hl => ?_)
      refine lv_iload_n hx hb d_Joins_join_38 rfl (lv_at hl 2 rfl) ?_
      refine lv_iload hx hb d_Joins_join_39 (lv_at hl 1 rfl) ?_
      refine va_mmax hx hb (by rw [hml]; exact hl.1.symm) hown (hW _ kw_333) (hW _ kw_334) (hW _ kw_18) (hW _ kw_335) (Nat.le_of_ble_eq_true rfl) (Nat.le_of_ble_eq_true rfl) (Nat.le_of_ble_eq_true rfl) (Nat.le_of_ble_eq_true rfl) d_Joins_join_41 ?_
      refine lv_topi (fun y16 ey16 => ?_)
      have hw := hw y16 ey16
      refine lv_istore (i := 6) (lv' := [(6, .int y16), (5, .int y15), (4, .int r12), (3, .int r9), (0, va_rf (some v0)), (1, .int x1), (2, .int x2)]) hx hb d_Joins_join_44 hl (by decide) rfl (fun ls hl => ?_)
      refine mx_aload_n (r := some v0) hx hb d_Joins_join_46 rfl (lv_at hl 4 rfl) ?_
      obtain ⟨t17, hw⟩ := hw
      refine mx_get (ci := 2) (C := "NetJoins$Joins") (T := F_Joins) (N := 1) hx hb hW hown hK.1 hR (a := v0) rfl t17 rfl i_Joins 0 2 (by decide) rfl kw_80 (fun _ h9 => h9) d_Joins_join_47 ?_
      refine lv_iload hx hb d_Joins_join_50 (lv_at hl 0 rfl) ?_
      refine lv_bipush (v := 11) hx hb d_Joins_join_52 (by decide) ?_
      refine lv_ishr hx hb d_Joins_join_54 ?_
      obtain ⟨a18, ea18, t19, t19i, hw⟩ := hw
      refine mx_rald hx hb hK.1 hR (a := a18) ea18 t19 t19i d_Joins_join_55 ?_
      refine lv_iload hx hb d_Joins_join_56 (lv_at hl 0 rfl) ?_
      refine lv_sipush (v := 2047) hx hb d_Joins_join_58 (by decide) ?_
      refine lv_iand hx hb d_Joins_join_61 ?_
      refine lv_iload hx hb d_Joins_join_62 (lv_at hl 1 rfl) ?_
      obtain ⟨a20, ea20, t21, t21i, hw⟩ := hw
      refine mx_iast hx hb hK.1 hR (a := a20) ea20 t21 t21i d_Joins_join_64 (fun H locs hR => ?_)
      obtain ⟨h22, eh22⟩ : ∃ z, z = sA h13 a20 (y16 &&& (2047 : Int32)).toNatClampNeg y15 := ⟨_, rfl⟩
      rw [← eh22] at hR
      have hw := hw h22 eh22
      exact mx_vret hx hb hr hlocks hR hw d_Joins_join_65
    · have hw := hw.2 c8
      exact mx_vret hx hb hr hlocks hR hw d_Joins_join_16
end
