section
-- ===== PART A: goes FIRST, ahead of the names: the tables' words, and 'selects' of the private methods out of them =====
/-- a private method of a class that the tables say can be made, by its rows of tables_1 -/
def lw_okq (q : MethodName × Nat) : Prop := (q.1.cls ≠ "java/lang/invoke/MethodHandle" ∧ q.1.cls ≠ "java/lang/invoke/VarHandle") ∧ Cond.instantiable q.1.cls q.2 ∈ tables_1 ∧ Cond.privateMethod q.1 ∈ tables_1 ∧ Cond.instanceMethod q.1 ∈ tables_1
theorem lw_p0 : lw_okq (⟨"NetJoins$Joins", "scatterRow", "(I)V"⟩, 1) := ⟨⟨by decide +kernel, by decide +kernel⟩, List.mem_of_getElem? (i := 66) (by decide +kernel), List.mem_of_getElem? (i := 74) (by decide +kernel), List.mem_of_getElem? (i := 75) (by decide +kernel)⟩
theorem lw_p1 : lw_okq (⟨"NetJoins", "listRemarks", "()V"⟩, 18) := ⟨⟨by decide +kernel, by decide +kernel⟩, List.mem_of_getElem? (i := 32) (by decide +kernel), List.mem_of_getElem? (i := 184) (by decide +kernel), List.mem_of_getElem? (i := 185) (by decide +kernel)⟩
theorem lw_p2 : lw_okq (⟨"NetJoins", "listNames", "()V"⟩, 18) := ⟨⟨by decide +kernel, by decide +kernel⟩, List.mem_of_getElem? (i := 32) (by decide +kernel), List.mem_of_getElem? (i := 188) (by decide +kernel), List.mem_of_getElem? (i := 189) (by decide +kernel)⟩
theorem lw_p3 : lw_okq (⟨"NetJoins", "netOfLabel", "(LNetJoins$Spot;LNetJoins$Sheet;)I"⟩, 18) := ⟨⟨by decide +kernel, by decide +kernel⟩, List.mem_of_getElem? (i := 32) (by decide +kernel), List.mem_of_getElem? (i := 213) (by decide +kernel), List.mem_of_getElem? (i := 214) (by decide +kernel)⟩
theorem lw_p4 : lw_okq (⟨"NetJoins$Joins", "has", "(I)Z"⟩, 1) := ⟨⟨by decide +kernel, by decide +kernel⟩, List.mem_of_getElem? (i := 66) (by decide +kernel), List.mem_of_getElem? (i := 228) (by decide +kernel), List.mem_of_getElem? (i := 229) (by decide +kernel)⟩
theorem lw_p5 : lw_okq (⟨"NetJoins$Joins", "climb", "(I)I"⟩, 1) := ⟨⟨by decide +kernel, by decide +kernel⟩, List.mem_of_getElem? (i := 66) (by decide +kernel), List.mem_of_getElem? (i := 232) (by decide +kernel), List.mem_of_getElem? (i := 233) (by decide +kernel)⟩
theorem lw_p6 : lw_okq (⟨"NetJoins", "remarkOtherNames", "(I)V"⟩, 18) := ⟨⟨by decide +kernel, by decide +kernel⟩, List.mem_of_getElem? (i := 32) (by decide +kernel), List.mem_of_getElem? (i := 237) (by decide +kernel), List.mem_of_getElem? (i := 238) (by decide +kernel)⟩
theorem lw_p7 : lw_okq (⟨"NetJoins", "bestName", "(I)I"⟩, 18) := ⟨⟨by decide +kernel, by decide +kernel⟩, List.mem_of_getElem? (i := 32) (by decide +kernel), List.mem_of_getElem? (i := 241) (by decide +kernel), List.mem_of_getElem? (i := 242) (by decide +kernel)⟩
theorem lw_p8 : lw_okq (⟨"NetJoins", "remark", "(I)V"⟩, 18) := ⟨⟨by decide +kernel, by decide +kernel⟩, List.mem_of_getElem? (i := 32) (by decide +kernel), List.mem_of_getElem? (i := 245) (by decide +kernel), List.mem_of_getElem? (i := 246) (by decide +kernel)⟩
theorem lw_p9 : lw_okq (⟨"NetJoins", "isLoose", "(LNetJoins$Spot;)Z"⟩, 18) := ⟨⟨by decide +kernel, by decide +kernel⟩, List.mem_of_getElem? (i := 32) (by decide +kernel), List.mem_of_getElem? (i := 249) (by decide +kernel), List.mem_of_getElem? (i := 250) (by decide +kernel)⟩
theorem lw_p10 : lw_okq (⟨"NetJoins", "isJoinedToAnother", "(I)Z"⟩, 18) := ⟨⟨by decide +kernel, by decide +kernel⟩, List.mem_of_getElem? (i := 32) (by decide +kernel), List.mem_of_getElem? (i := 276) (by decide +kernel), List.mem_of_getElem? (i := 277) (by decide +kernel)⟩
theorem lw_p11 : lw_okq (⟨"NetJoins", "copiesOf", "(I)I"⟩, 18) := ⟨⟨by decide +kernel, by decide +kernel⟩, List.mem_of_getElem? (i := 32) (by decide +kernel), List.mem_of_getElem? (i := 280) (by decide +kernel), List.mem_of_getElem? (i := 281) (by decide +kernel)⟩
theorem lw_p12 : lw_okq (⟨"NetJoins", "joinAnew", "()V"⟩, 18) := ⟨⟨by decide +kernel, by decide +kernel⟩, List.mem_of_getElem? (i := 32) (by decide +kernel), List.mem_of_getElem? (i := 299) (by decide +kernel), List.mem_of_getElem? (i := 300) (by decide +kernel)⟩
theorem lw_p13 : lw_okq (⟨"NetJoins", "touchAnew", "()V"⟩, 18) := ⟨⟨by decide +kernel, by decide +kernel⟩, List.mem_of_getElem? (i := 32) (by decide +kernel), List.mem_of_getElem? (i := 303) (by decide +kernel), List.mem_of_getElem? (i := 304) (by decide +kernel)⟩
theorem lw_p14 : lw_okq (⟨"NetJoins", "joinEnds", "(LNetJoins$Wire;)V"⟩, 18) := ⟨⟨by decide +kernel, by decide +kernel⟩, List.mem_of_getElem? (i := 32) (by decide +kernel), List.mem_of_getElem? (i := 311) (by decide +kernel), List.mem_of_getElem? (i := 312) (by decide +kernel)⟩
theorem lw_p15 : lw_okq (⟨"NetJoins", "joinJunction", "(LNetJoins$Spot;)V"⟩, 18) := ⟨⟨by decide +kernel, by decide +kernel⟩, List.mem_of_getElem? (i := 32) (by decide +kernel), List.mem_of_getElem? (i := 337) (by decide +kernel), List.mem_of_getElem? (i := 338) (by decide +kernel)⟩
def lw_privs_1 : List (MethodName × Nat) := [(⟨"NetJoins$Joins", "scatterRow", "(I)V"⟩, 1), (⟨"NetJoins", "listRemarks", "()V"⟩, 18), (⟨"NetJoins", "listNames", "()V"⟩, 18), (⟨"NetJoins", "netOfLabel", "(LNetJoins$Spot;LNetJoins$Sheet;)I"⟩, 18), (⟨"NetJoins$Joins", "has", "(I)Z"⟩, 1), (⟨"NetJoins$Joins", "climb", "(I)I"⟩, 1), (⟨"NetJoins", "remarkOtherNames", "(I)V"⟩, 18), (⟨"NetJoins", "bestName", "(I)I"⟩, 18), (⟨"NetJoins", "remark", "(I)V"⟩, 18), (⟨"NetJoins", "isLoose", "(LNetJoins$Spot;)Z"⟩, 18), (⟨"NetJoins", "isJoinedToAnother", "(I)Z"⟩, 18), (⟨"NetJoins", "copiesOf", "(I)I"⟩, 18), (⟨"NetJoins", "joinAnew", "()V"⟩, 18), (⟨"NetJoins", "touchAnew", "()V"⟩, 18), (⟨"NetJoins", "joinEnds", "(LNetJoins$Wire;)V"⟩, 18), (⟨"NetJoins", "joinJunction", "(LNetJoins$Spot;)V"⟩, 18)]
theorem lw_r1 : ∀ q ∈ lw_privs_1, lw_okq q := List.forall_mem_cons.mpr ⟨lw_p0, List.forall_mem_cons.mpr ⟨lw_p1, List.forall_mem_cons.mpr ⟨lw_p2, List.forall_mem_cons.mpr ⟨lw_p3, List.forall_mem_cons.mpr ⟨lw_p4, List.forall_mem_cons.mpr ⟨lw_p5, List.forall_mem_cons.mpr ⟨lw_p6, List.forall_mem_cons.mpr ⟨lw_p7, List.forall_mem_cons.mpr ⟨lw_p8, List.forall_mem_cons.mpr ⟨lw_p9, List.forall_mem_cons.mpr ⟨lw_p10, List.forall_mem_cons.mpr ⟨lw_p11, List.forall_mem_cons.mpr ⟨lw_p12, List.forall_mem_cons.mpr ⟨lw_p13, List.forall_mem_cons.mpr ⟨lw_p14, List.forall_mem_cons.mpr ⟨lw_p15, fun _ h => absurd h List.not_mem_nil⟩⟩⟩⟩⟩⟩⟩⟩⟩⟩⟩⟩⟩⟩⟩⟩
theorem lw_p16 : lw_okq (⟨"NetJoins", "joinSpot", "(LNetJoins$Spot;)V"⟩, 18) := ⟨⟨by decide +kernel, by decide +kernel⟩, List.mem_of_getElem? (i := 32) (by decide +kernel), List.mem_of_getElem? (i := 341) (by decide +kernel), List.mem_of_getElem? (i := 342) (by decide +kernel)⟩
theorem lw_p17 : lw_okq (⟨"NetJoins", "joinSamePlace", "(LNetJoins$Spot;Ljava/util/ArrayList;)V"⟩, 18) := ⟨⟨by decide +kernel, by decide +kernel⟩, List.mem_of_getElem? (i := 32) (by decide +kernel), List.mem_of_getElem? (i := 345) (by decide +kernel), List.mem_of_getElem? (i := 346) (by decide +kernel)⟩
theorem lw_p18 : lw_okq (⟨"NetJoins", "spreadOn", "(LNetJoins$Sheet;)V"⟩, 18) := ⟨⟨by decide +kernel, by decide +kernel⟩, List.mem_of_getElem? (i := 32) (by decide +kernel), List.mem_of_getElem? (i := 349) (by decide +kernel), List.mem_of_getElem? (i := 350) (by decide +kernel)⟩
theorem lw_p19 : lw_okq (⟨"NetJoins", "spreadSpots", "(LNetJoins$Sheet;Ljava/util/ArrayList;)V"⟩, 18) := ⟨⟨by decide +kernel, by decide +kernel⟩, List.mem_of_getElem? (i := 32) (by decide +kernel), List.mem_of_getElem? (i := 353) (by decide +kernel), List.mem_of_getElem? (i := 354) (by decide +kernel)⟩
theorem lw_p20 : lw_okq (⟨"NetJoins", "nodeOn", "(LNetJoins$Sheet;I)I"⟩, 18) := ⟨⟨by decide +kernel, by decide +kernel⟩, List.mem_of_getElem? (i := 32) (by decide +kernel), List.mem_of_getElem? (i := 357) (by decide +kernel), List.mem_of_getElem? (i := 358) (by decide +kernel)⟩
theorem lw_p21 : lw_okq (⟨"NetJoins", "joinBusesOn", "(LNetJoins$Sheet;)V"⟩, 18) := ⟨⟨by decide +kernel, by decide +kernel⟩, List.mem_of_getElem? (i := 32) (by decide +kernel), List.mem_of_getElem? (i := 361) (by decide +kernel), List.mem_of_getElem? (i := 362) (by decide +kernel)⟩
theorem lw_p22 : lw_okq (⟨"NetJoins", "joinBus", "(II)V"⟩, 18) := ⟨⟨by decide +kernel, by decide +kernel⟩, List.mem_of_getElem? (i := 32) (by decide +kernel), List.mem_of_getElem? (i := 366) (by decide +kernel), List.mem_of_getElem? (i := 367) (by decide +kernel)⟩
theorem lw_p23 : lw_okq (⟨"NetJoins", "joinMembers", "(LNetJoins$Bus;ILNetJoins$Bus;I)V"⟩, 18) := ⟨⟨by decide +kernel, by decide +kernel⟩, List.mem_of_getElem? (i := 32) (by decide +kernel), List.mem_of_getElem? (i := 370) (by decide +kernel), List.mem_of_getElem? (i := 371) (by decide +kernel)⟩
theorem lw_p24 : lw_okq (⟨"NetJoins", "longestBefore", "(I)LNetJoins$Bus;"⟩, 18) := ⟨⟨by decide +kernel, by decide +kernel⟩, List.mem_of_getElem? (i := 32) (by decide +kernel), List.mem_of_getElem? (i := 386) (by decide +kernel), List.mem_of_getElem? (i := 387) (by decide +kernel)⟩
theorem lw_p25 : lw_okq (⟨"NetJoins", "countNets", "()V"⟩, 18) := ⟨⟨by decide +kernel, by decide +kernel⟩, List.mem_of_getElem? (i := 32) (by decide +kernel), List.mem_of_getElem? (i := 391) (by decide +kernel), List.mem_of_getElem? (i := 392) (by decide +kernel)⟩
theorem lw_p26 : lw_okq (⟨"NetJoins", "needSheet", "(I)V"⟩, 18) := ⟨⟨by decide +kernel, by decide +kernel⟩, List.mem_of_getElem? (i := 32) (by decide +kernel), List.mem_of_getElem? (i := 425) (by decide +kernel), List.mem_of_getElem? (i := 426) (by decide +kernel)⟩
theorem lw_p27 : lw_okq (⟨"java/lang/Throwable", "fillInStackTrace", "(I)Ljava/lang/Throwable;"⟩, 6) := ⟨⟨by decide +kernel, by decide +kernel⟩, List.mem_of_getElem? (i := 467) (by decide +kernel), List.mem_of_getElem? (i := 465) (by decide +kernel), List.mem_of_getElem? (i := 466) (by decide +kernel)⟩
theorem lw_p28 : lw_okq (⟨"NetJoins", "needDrawn", "(I)V"⟩, 18) := ⟨⟨by decide +kernel, by decide +kernel⟩, List.mem_of_getElem? (i := 32) (by decide +kernel), List.mem_of_getElem? (i := 497) (by decide +kernel), List.mem_of_getElem? (i := 498) (by decide +kernel)⟩
theorem lw_p29 : lw_okq (⟨"NetJoins", "repeatOf", "(III)LNetJoins$Sheet;"⟩, 18) := ⟨⟨by decide +kernel, by decide +kernel⟩, List.mem_of_getElem? (i := 32) (by decide +kernel), List.mem_of_getElem? (i := 543) (by decide +kernel), List.mem_of_getElem? (i := 544) (by decide +kernel)⟩
theorem lw_p30 : lw_okq (⟨"java/util/ArrayList", "add", "(Ljava/lang/Object;[Ljava/lang/Object;I)V"⟩, 3) := ⟨⟨by decide +kernel, by decide +kernel⟩, List.mem_of_getElem? (i := 40) (by decide +kernel), List.mem_of_getElem? (i := 551) (by decide +kernel), List.mem_of_getElem? (i := 552) (by decide +kernel)⟩
theorem lw_p31 : lw_okq (⟨"java/util/ArrayList", "grow", "()[Ljava/lang/Object;"⟩, 3) := ⟨⟨by decide +kernel, by decide +kernel⟩, List.mem_of_getElem? (i := 40) (by decide +kernel), List.mem_of_getElem? (i := 555) (by decide +kernel), List.mem_of_getElem? (i := 556) (by decide +kernel)⟩
def lw_privs_2 : List (MethodName × Nat) := [(⟨"NetJoins", "joinSpot", "(LNetJoins$Spot;)V"⟩, 18), (⟨"NetJoins", "joinSamePlace", "(LNetJoins$Spot;Ljava/util/ArrayList;)V"⟩, 18), (⟨"NetJoins", "spreadOn", "(LNetJoins$Sheet;)V"⟩, 18), (⟨"NetJoins", "spreadSpots", "(LNetJoins$Sheet;Ljava/util/ArrayList;)V"⟩, 18), (⟨"NetJoins", "nodeOn", "(LNetJoins$Sheet;I)I"⟩, 18), (⟨"NetJoins", "joinBusesOn", "(LNetJoins$Sheet;)V"⟩, 18), (⟨"NetJoins", "joinBus", "(II)V"⟩, 18), (⟨"NetJoins", "joinMembers", "(LNetJoins$Bus;ILNetJoins$Bus;I)V"⟩, 18), (⟨"NetJoins", "longestBefore", "(I)LNetJoins$Bus;"⟩, 18), (⟨"NetJoins", "countNets", "()V"⟩, 18), (⟨"NetJoins", "needSheet", "(I)V"⟩, 18), (⟨"java/lang/Throwable", "fillInStackTrace", "(I)Ljava/lang/Throwable;"⟩, 6), (⟨"NetJoins", "needDrawn", "(I)V"⟩, 18), (⟨"NetJoins", "repeatOf", "(III)LNetJoins$Sheet;"⟩, 18), (⟨"java/util/ArrayList", "add", "(Ljava/lang/Object;[Ljava/lang/Object;I)V"⟩, 3), (⟨"java/util/ArrayList", "grow", "()[Ljava/lang/Object;"⟩, 3)]
theorem lw_r2 : ∀ q ∈ lw_privs_2, lw_okq q := List.forall_mem_cons.mpr ⟨lw_p16, List.forall_mem_cons.mpr ⟨lw_p17, List.forall_mem_cons.mpr ⟨lw_p18, List.forall_mem_cons.mpr ⟨lw_p19, List.forall_mem_cons.mpr ⟨lw_p20, List.forall_mem_cons.mpr ⟨lw_p21, List.forall_mem_cons.mpr ⟨lw_p22, List.forall_mem_cons.mpr ⟨lw_p23, List.forall_mem_cons.mpr ⟨lw_p24, List.forall_mem_cons.mpr ⟨lw_p25, List.forall_mem_cons.mpr ⟨lw_p26, List.forall_mem_cons.mpr ⟨lw_p27, List.forall_mem_cons.mpr ⟨lw_p28, List.forall_mem_cons.mpr ⟨lw_p29, List.forall_mem_cons.mpr ⟨lw_p30, List.forall_mem_cons.mpr ⟨lw_p31, fun _ h => absurd h List.not_mem_nil⟩⟩⟩⟩⟩⟩⟩⟩⟩⟩⟩⟩⟩⟩⟩⟩
theorem lw_p32 : lw_okq (⟨"java/util/ArrayList", "grow", "(I)[Ljava/lang/Object;"⟩, 3) := ⟨⟨by decide +kernel, by decide +kernel⟩, List.mem_of_getElem? (i := 40) (by decide +kernel), List.mem_of_getElem? (i := 559) (by decide +kernel), List.mem_of_getElem? (i := 560) (by decide +kernel)⟩
theorem lw_p33 : lw_okq (⟨"NetJoins", "keepUp", "()V"⟩, 18) := ⟨⟨by decide +kernel, by decide +kernel⟩, List.mem_of_getElem? (i := 32) (by decide +kernel), List.mem_of_getElem? (i := 607) (by decide +kernel), List.mem_of_getElem? (i := 608) (by decide +kernel)⟩
theorem lw_p34 : lw_okq (⟨"NetJoins", "joinThroughJunctions", "(LNetJoins$Wire;)V"⟩, 18) := ⟨⟨by decide +kernel, by decide +kernel⟩, List.mem_of_getElem? (i := 32) (by decide +kernel), List.mem_of_getElem? (i := 675) (by decide +kernel), List.mem_of_getElem? (i := 676) (by decide +kernel)⟩
theorem lw_p35 : lw_okq (⟨"NetJoins", "joinWithSpots", "(LNetJoins$Wire;Ljava/util/ArrayList;)V"⟩, 18) := ⟨⟨by decide +kernel, by decide +kernel⟩, List.mem_of_getElem? (i := 32) (by decide +kernel), List.mem_of_getElem? (i := 679) (by decide +kernel), List.mem_of_getElem? (i := 680) (by decide +kernel)⟩
theorem lw_p36 : lw_okq (⟨"NetJoins", "spreadOver", "(I)V"⟩, 18) := ⟨⟨by decide +kernel, by decide +kernel⟩, List.mem_of_getElem? (i := 32) (by decide +kernel), List.mem_of_getElem? (i := 683) (by decide +kernel), List.mem_of_getElem? (i := 684) (by decide +kernel)⟩
theorem lw_p37 : lw_okq (⟨"NetJoins", "putByName", "(LNetJoins$Spot;)V"⟩, 18) := ⟨⟨by decide +kernel, by decide +kernel⟩, List.mem_of_getElem? (i := 32) (by decide +kernel), List.mem_of_getElem? (i := 737) (by decide +kernel), List.mem_of_getElem? (i := 738) (by decide +kernel)⟩
theorem lw_p38 : lw_okq (⟨"java/util/ArrayList", "rangeCheckForAdd", "(I)V"⟩, 3) := ⟨⟨by decide +kernel, by decide +kernel⟩, List.mem_of_getElem? (i := 40) (by decide +kernel), List.mem_of_getElem? (i := 745) (by decide +kernel), List.mem_of_getElem? (i := 746) (by decide +kernel)⟩
theorem lw_p39 : lw_okq (⟨"java/util/ArrayList", "outOfBoundsMsg", "(I)Ljava/lang/String;"⟩, 3) := ⟨⟨by decide +kernel, by decide +kernel⟩, List.mem_of_getElem? (i := 40) (by decide +kernel), List.mem_of_getElem? (i := 750) (by decide +kernel), List.mem_of_getElem? (i := 751) (by decide +kernel)⟩
theorem lw_p40 : lw_okq (⟨"NetJoins", "hasPinOf", "(IIJJ)Z"⟩, 18) := ⟨⟨by decide +kernel, by decide +kernel⟩, List.mem_of_getElem? (i := 32) (by decide +kernel), List.mem_of_getElem? (i := 994) (by decide +kernel), List.mem_of_getElem? (i := 995) (by decide +kernel)⟩
theorem lw_p41 : lw_okq (⟨"NetJoins", "needLabelOn", "(II)V"⟩, 18) := ⟨⟨by decide +kernel, by decide +kernel⟩, List.mem_of_getElem? (i := 32) (by decide +kernel), List.mem_of_getElem? (i := 1005) (by decide +kernel), List.mem_of_getElem? (i := 1006) (by decide +kernel)⟩
theorem lw_p42 : lw_okq (⟨"NetJoins", "needParent", "(I)V"⟩, 18) := ⟨⟨by decide +kernel, by decide +kernel⟩, List.mem_of_getElem? (i := 32) (by decide +kernel), List.mem_of_getElem? (i := 1010) (by decide +kernel), List.mem_of_getElem? (i := 1011) (by decide +kernel)⟩
theorem lw_p43 : lw_okq (⟨"NetJoins", "hasPort", "(III)Z"⟩, 18) := ⟨⟨by decide +kernel, by decide +kernel⟩, List.mem_of_getElem? (i := 32) (by decide +kernel), List.mem_of_getElem? (i := 1015) (by decide +kernel), List.mem_of_getElem? (i := 1016) (by decide +kernel)⟩
theorem lw_p44 : lw_okq (⟨"NetJoins", "hasBus", "(IIII)Z"⟩, 18) := ⟨⟨by decide +kernel, by decide +kernel⟩, List.mem_of_getElem? (i := 32) (by decide +kernel), List.mem_of_getElem? (i := 1052) (by decide +kernel), List.mem_of_getElem? (i := 1053) (by decide +kernel)⟩
theorem lw_p45 : lw_okq (⟨"NetJoins", "needPin", "(I)V"⟩, 18) := ⟨⟨by decide +kernel, by decide +kernel⟩, List.mem_of_getElem? (i := 32) (by decide +kernel), List.mem_of_getElem? (i := 1085) (by decide +kernel), List.mem_of_getElem? (i := 1086) (by decide +kernel)⟩
theorem lw_p46 : lw_okq (⟨"NetJoinsModel", "isSheet", "(I)Z"⟩, 33) := ⟨⟨by decide +kernel, by decide +kernel⟩, List.mem_of_getElem? (i := 1130) (by decide +kernel), List.mem_of_getElem? (i := 1245) (by decide +kernel), List.mem_of_getElem? (i := 1246) (by decide +kernel)⟩
theorem lw_p47 : lw_okq (⟨"NetJoinsModel", "anew", "()V"⟩, 33) := ⟨⟨by decide +kernel, by decide +kernel⟩, List.mem_of_getElem? (i := 1130) (by decide +kernel), List.mem_of_getElem? (i := 1249) (by decide +kernel), List.mem_of_getElem? (i := 1250) (by decide +kernel)⟩
def lw_privs_3 : List (MethodName × Nat) := [(⟨"java/util/ArrayList", "grow", "(I)[Ljava/lang/Object;"⟩, 3), (⟨"NetJoins", "keepUp", "()V"⟩, 18), (⟨"NetJoins", "joinThroughJunctions", "(LNetJoins$Wire;)V"⟩, 18), (⟨"NetJoins", "joinWithSpots", "(LNetJoins$Wire;Ljava/util/ArrayList;)V"⟩, 18), (⟨"NetJoins", "spreadOver", "(I)V"⟩, 18), (⟨"NetJoins", "putByName", "(LNetJoins$Spot;)V"⟩, 18), (⟨"java/util/ArrayList", "rangeCheckForAdd", "(I)V"⟩, 3), (⟨"java/util/ArrayList", "outOfBoundsMsg", "(I)Ljava/lang/String;"⟩, 3), (⟨"NetJoins", "hasPinOf", "(IIJJ)Z"⟩, 18), (⟨"NetJoins", "needLabelOn", "(II)V"⟩, 18), (⟨"NetJoins", "needParent", "(I)V"⟩, 18), (⟨"NetJoins", "hasPort", "(III)Z"⟩, 18), (⟨"NetJoins", "hasBus", "(IIII)Z"⟩, 18), (⟨"NetJoins", "needPin", "(I)V"⟩, 18), (⟨"NetJoinsModel", "isSheet", "(I)Z"⟩, 33), (⟨"NetJoinsModel", "anew", "()V"⟩, 33)]
theorem lw_r3 : ∀ q ∈ lw_privs_3, lw_okq q := List.forall_mem_cons.mpr ⟨lw_p32, List.forall_mem_cons.mpr ⟨lw_p33, List.forall_mem_cons.mpr ⟨lw_p34, List.forall_mem_cons.mpr ⟨lw_p35, List.forall_mem_cons.mpr ⟨lw_p36, List.forall_mem_cons.mpr ⟨lw_p37, List.forall_mem_cons.mpr ⟨lw_p38, List.forall_mem_cons.mpr ⟨lw_p39, List.forall_mem_cons.mpr ⟨lw_p40, List.forall_mem_cons.mpr ⟨lw_p41, List.forall_mem_cons.mpr ⟨lw_p42, List.forall_mem_cons.mpr ⟨lw_p43, List.forall_mem_cons.mpr ⟨lw_p44, List.forall_mem_cons.mpr ⟨lw_p45, List.forall_mem_cons.mpr ⟨lw_p46, List.forall_mem_cons.mpr ⟨lw_p47, fun _ h => absurd h List.not_mem_nil⟩⟩⟩⟩⟩⟩⟩⟩⟩⟩⟩⟩⟩⟩⟩⟩
theorem lw_p48 : lw_okq (⟨"NetJoinsModel", "joinAll", "()V"⟩, 33) := ⟨⟨by decide +kernel, by decide +kernel⟩, List.mem_of_getElem? (i := 1130) (by decide +kernel), List.mem_of_getElem? (i := 1253) (by decide +kernel), List.mem_of_getElem? (i := 1254) (by decide +kernel)⟩
theorem lw_p49 : lw_okq (⟨"NetJoinsModel", "joinSheet", "(I)V"⟩, 33) := ⟨⟨by decide +kernel, by decide +kernel⟩, List.mem_of_getElem? (i := 1130) (by decide +kernel), List.mem_of_getElem? (i := 1257) (by decide +kernel), List.mem_of_getElem? (i := 1258) (by decide +kernel)⟩
theorem lw_p50 : lw_okq (⟨"NetJoinsModel", "joinWires", "(II)V"⟩, 33) := ⟨⟨by decide +kernel, by decide +kernel⟩, List.mem_of_getElem? (i := 1130) (by decide +kernel), List.mem_of_getElem? (i := 1261) (by decide +kernel), List.mem_of_getElem? (i := 1262) (by decide +kernel)⟩
theorem lw_p51 : lw_okq (⟨"NetJoinsModel", "isOn", "(II)Z"⟩, 33) := ⟨⟨by decide +kernel, by decide +kernel⟩, List.mem_of_getElem? (i := 1130) (by decide +kernel), List.mem_of_getElem? (i := 1265) (by decide +kernel), List.mem_of_getElem? (i := 1266) (by decide +kernel)⟩
theorem lw_p52 : lw_okq (⟨"NetJoinsModel", "haveEnd", "(II)Z"⟩, 33) := ⟨⟨by decide +kernel, by decide +kernel⟩, List.mem_of_getElem? (i := 1130) (by decide +kernel), List.mem_of_getElem? (i := 1269) (by decide +kernel), List.mem_of_getElem? (i := 1270) (by decide +kernel)⟩
theorem lw_p53 : lw_okq (⟨"NetJoinsModel", "goesThrough", "(IJJ)Z"⟩, 33) := ⟨⟨by decide +kernel, by decide +kernel⟩, List.mem_of_getElem? (i := 1130) (by decide +kernel), List.mem_of_getElem? (i := 1273) (by decide +kernel), List.mem_of_getElem? (i := 1274) (by decide +kernel)⟩
theorem lw_p54 : lw_okq (⟨"NetJoinsModel", "join", "(II)V"⟩, 33) := ⟨⟨by decide +kernel, by decide +kernel⟩, List.mem_of_getElem? (i := 1130) (by decide +kernel), List.mem_of_getElem? (i := 1277) (by decide +kernel), List.mem_of_getElem? (i := 1278) (by decide +kernel)⟩
theorem lw_p55 : lw_okq (⟨"NetJoinsModel", "leader", "(I)I"⟩, 33) := ⟨⟨by decide +kernel, by decide +kernel⟩, List.mem_of_getElem? (i := 1130) (by decide +kernel), List.mem_of_getElem? (i := 1281) (by decide +kernel), List.mem_of_getElem? (i := 1282) (by decide +kernel)⟩
theorem lw_p56 : lw_okq (⟨"NetJoinsModel", "joinPlace", "(IIIJJ)V"⟩, 33) := ⟨⟨by decide +kernel, by decide +kernel⟩, List.mem_of_getElem? (i := 1130) (by decide +kernel), List.mem_of_getElem? (i := 1285) (by decide +kernel), List.mem_of_getElem? (i := 1286) (by decide +kernel)⟩
theorem lw_p57 : lw_okq (⟨"NetJoinsModel", "nameNode", "(II)I"⟩, 33) := ⟨⟨by decide +kernel, by decide +kernel⟩, List.mem_of_getElem? (i := 1130) (by decide +kernel), List.mem_of_getElem? (i := 1289) (by decide +kernel), List.mem_of_getElem? (i := 1290) (by decide +kernel)⟩
theorem lw_p58 : lw_okq (⟨"NetJoinsModel", "joinBuses", "(IIII)V"⟩, 33) := ⟨⟨by decide +kernel, by decide +kernel⟩, List.mem_of_getElem? (i := 1130) (by decide +kernel), List.mem_of_getElem? (i := 1293) (by decide +kernel), List.mem_of_getElem? (i := 1294) (by decide +kernel)⟩
theorem lw_p59 : lw_okq (⟨"NetJoinsModel", "members", "(I)I"⟩, 33) := ⟨⟨by decide +kernel, by decide +kernel⟩, List.mem_of_getElem? (i := 1130) (by decide +kernel), List.mem_of_getElem? (i := 1297) (by decide +kernel), List.mem_of_getElem? (i := 1298) (by decide +kernel)⟩
theorem lw_p60 : lw_okq (⟨"NetJoinsModel", "member", "(II)I"⟩, 33) := ⟨⟨by decide +kernel, by decide +kernel⟩, List.mem_of_getElem? (i := 1130) (by decide +kernel), List.mem_of_getElem? (i := 1301) (by decide +kernel), List.mem_of_getElem? (i := 1302) (by decide +kernel)⟩
theorem lw_p61 : lw_okq (⟨"NetJoinsModel", "number", "()V"⟩, 33) := ⟨⟨by decide +kernel, by decide +kernel⟩, List.mem_of_getElem? (i := 1130) (by decide +kernel), List.mem_of_getElem? (i := 1305) (by decide +kernel), List.mem_of_getElem? (i := 1306) (by decide +kernel)⟩
theorem lw_p62 : lw_okq (⟨"NetJoinsModel", "wasThere", "(I)Z"⟩, 33) := ⟨⟨by decide +kernel, by decide +kernel⟩, List.mem_of_getElem? (i := 1130) (by decide +kernel), List.mem_of_getElem? (i := 1309) (by decide +kernel), List.mem_of_getElem? (i := 1310) (by decide +kernel)⟩
theorem lw_p63 : lw_okq (⟨"NetJoinsModel", "refusal", "(IZ)I"⟩, 33) := ⟨⟨by decide +kernel, by decide +kernel⟩, List.mem_of_getElem? (i := 1130) (by decide +kernel), List.mem_of_getElem? (i := 1322) (by decide +kernel), List.mem_of_getElem? (i := 1323) (by decide +kernel)⟩
def lw_privs_4 : List (MethodName × Nat) := [(⟨"NetJoinsModel", "joinAll", "()V"⟩, 33), (⟨"NetJoinsModel", "joinSheet", "(I)V"⟩, 33), (⟨"NetJoinsModel", "joinWires", "(II)V"⟩, 33), (⟨"NetJoinsModel", "isOn", "(II)Z"⟩, 33), (⟨"NetJoinsModel", "haveEnd", "(II)Z"⟩, 33), (⟨"NetJoinsModel", "goesThrough", "(IJJ)Z"⟩, 33), (⟨"NetJoinsModel", "join", "(II)V"⟩, 33), (⟨"NetJoinsModel", "leader", "(I)I"⟩, 33), (⟨"NetJoinsModel", "joinPlace", "(IIIJJ)V"⟩, 33), (⟨"NetJoinsModel", "nameNode", "(II)I"⟩, 33), (⟨"NetJoinsModel", "joinBuses", "(IIII)V"⟩, 33), (⟨"NetJoinsModel", "members", "(I)I"⟩, 33), (⟨"NetJoinsModel", "member", "(II)I"⟩, 33), (⟨"NetJoinsModel", "number", "()V"⟩, 33), (⟨"NetJoinsModel", "wasThere", "(I)Z"⟩, 33), (⟨"NetJoinsModel", "refusal", "(IZ)I"⟩, 33)]
theorem lw_r4 : ∀ q ∈ lw_privs_4, lw_okq q := List.forall_mem_cons.mpr ⟨lw_p48, List.forall_mem_cons.mpr ⟨lw_p49, List.forall_mem_cons.mpr ⟨lw_p50, List.forall_mem_cons.mpr ⟨lw_p51, List.forall_mem_cons.mpr ⟨lw_p52, List.forall_mem_cons.mpr ⟨lw_p53, List.forall_mem_cons.mpr ⟨lw_p54, List.forall_mem_cons.mpr ⟨lw_p55, List.forall_mem_cons.mpr ⟨lw_p56, List.forall_mem_cons.mpr ⟨lw_p57, List.forall_mem_cons.mpr ⟨lw_p58, List.forall_mem_cons.mpr ⟨lw_p59, List.forall_mem_cons.mpr ⟨lw_p60, List.forall_mem_cons.mpr ⟨lw_p61, List.forall_mem_cons.mpr ⟨lw_p62, List.forall_mem_cons.mpr ⟨lw_p63, fun _ h => absurd h List.not_mem_nil⟩⟩⟩⟩⟩⟩⟩⟩⟩⟩⟩⟩⟩⟩⟩⟩
theorem lw_p64 : lw_okq (⟨"NetJoinsModel", "copySheet", "(II)I"⟩, 33) := ⟨⟨by decide +kernel, by decide +kernel⟩, List.mem_of_getElem? (i := 1130) (by decide +kernel), List.mem_of_getElem? (i := 1361) (by decide +kernel), List.mem_of_getElem? (i := 1362) (by decide +kernel)⟩
theorem lw_p65 : lw_okq (⟨"NetJoinsModel", "nameOf", "(I)I"⟩, 33) := ⟨⟨by decide +kernel, by decide +kernel⟩, List.mem_of_getElem? (i := 1130) (by decide +kernel), List.mem_of_getElem? (i := 1373) (by decide +kernel), List.mem_of_getElem? (i := 1374) (by decide +kernel)⟩
theorem lw_p66 : lw_okq (⟨"NetJoinsModel", "hasName", "(II)Z"⟩, 33) := ⟨⟨by decide +kernel, by decide +kernel⟩, List.mem_of_getElem? (i := 1130) (by decide +kernel), List.mem_of_getElem? (i := 1377) (by decide +kernel), List.mem_of_getElem? (i := 1378) (by decide +kernel)⟩
theorem lw_p67 : lw_okq (⟨"NetJoinsModel", "isBare", "(I)Z"⟩, 33) := ⟨⟨by decide +kernel, by decide +kernel⟩, List.mem_of_getElem? (i := 1130) (by decide +kernel), List.mem_of_getElem? (i := 1389) (by decide +kernel), List.mem_of_getElem? (i := 1390) (by decide +kernel)⟩
theorem lw_p68 : lw_okq (⟨"NetJoinsModel", "isJoined", "(I)Z"⟩, 33) := ⟨⟨by decide +kernel, by decide +kernel⟩, List.mem_of_getElem? (i := 1130) (by decide +kernel), List.mem_of_getElem? (i := 1394) (by decide +kernel), List.mem_of_getElem? (i := 1395) (by decide +kernel)⟩
def lw_privs_5 : List (MethodName × Nat) := [(⟨"NetJoinsModel", "copySheet", "(II)I"⟩, 33), (⟨"NetJoinsModel", "nameOf", "(I)I"⟩, 33), (⟨"NetJoinsModel", "hasName", "(II)Z"⟩, 33), (⟨"NetJoinsModel", "isBare", "(I)Z"⟩, 33), (⟨"NetJoinsModel", "isJoined", "(I)Z"⟩, 33)]
theorem lw_r5 : ∀ q ∈ lw_privs_5, lw_okq q := List.forall_mem_cons.mpr ⟨lw_p64, List.forall_mem_cons.mpr ⟨lw_p65, List.forall_mem_cons.mpr ⟨lw_p66, List.forall_mem_cons.mpr ⟨lw_p67, List.forall_mem_cons.mpr ⟨lw_p68, fun _ h => absurd h List.not_mem_nil⟩⟩⟩⟩⟩
def lw_privs : List (MethodName × Nat) := lw_privs_1 ++ (lw_privs_2 ++ (lw_privs_3 ++ (lw_privs_4 ++ (lw_privs_5))))
def lw_tbl : List Cond := k2_sels lw_privs ++ tables_1
theorem lw_privs_ok : ∀ q ∈ lw_privs, lw_okq q := by
  show ∀ q ∈ lw_privs_1 ++ (lw_privs_2 ++ (lw_privs_3 ++ (lw_privs_4 ++ (lw_privs_5)))), lw_okq q
  exact List.forall_mem_append.mpr ⟨lw_r1, List.forall_mem_append.mpr ⟨lw_r2, List.forall_mem_append.mpr ⟨lw_r3, List.forall_mem_append.mpr ⟨lw_r4, lw_r5⟩⟩⟩⟩
end
section
/-- all words of the tables that a call may take along -/
def WA : List Cond := lw_tbl.filter goodWord
theorem wa_t {w : Cond} (i : Nat) (h : tables_1[i]? = some w) (g : goodWord w = true) : w ∈ WA := List.mem_filter.mpr ⟨List.mem_append_right _ (List.mem_of_getElem? h), g⟩
theorem wa_s {w : Cond} (i : Nat) (h : (k2_sels lw_privs)[i]? = some w) (g : goodWord w = true) : w ∈ WA := List.mem_filter.mpr ⟨List.mem_append_left _ (List.mem_of_getElem? h), g⟩
theorem wa_good {w : Cond} (h : w ∈ WA) : (w.onTables && w.keeps) = true ∨ ∃ ty, w = .arrayClass ty := good_of_word (List.mem_filter.mp h).2
theorem wa_self : GoodIn WA WA := fun w h => ⟨h, wa_good h⟩
def F_NJ : u_T := fun k => match k with
  | 0 => ("NetJoins", "sheets", "Ljava/util/ArrayList;", true)
  | 1 => ("NetJoins", "wires", "Ljava/util/ArrayList;", true)
  | 2 => ("NetJoins", "junctions", "Ljava/util/ArrayList;", true)
  | 3 => ("NetJoins", "labels", "Ljava/util/ArrayList;", true)
  | 4 => ("NetJoins", "labelsByName", "Ljava/util/ArrayList;", true)
  | 5 => ("NetJoins", "pins", "Ljava/util/ArrayList;", true)
  | 6 => ("NetJoins", "ports", "Ljava/util/ArrayList;", true)
  | 7 => ("NetJoins", "buses", "Ljava/util/ArrayList;", true)
  | 8 => ("NetJoins", "ranks", "[I", true)
  | 9 => ("NetJoins", "touching", "LNetJoins$Joins;", true)
  | 10 => ("NetJoins", "joined", "LNetJoins$Joins;", true)
  | 11 => ("NetJoins", "table", "LNetJoins$NetTable;", true)
  | 12 => ("NetJoins", "nameStart", "[I", true)
  | 13 => ("NetJoins", "netNames", "[I", true)
  | 14 => ("NetJoins", "namesAreListed", "Z", false)
  | 15 => ("NetJoins", "remarks", "[I", true)
  | 16 => ("NetJoins", "remarkCount", "I", false)
  | _ => ("NetJoins", "remarksAreListed", "Z", false)
def t_NJ : Nat → FieldType := fun k => match k with
  | 0 => .object "java/util/ArrayList"
  | 1 => .object "java/util/ArrayList"
  | 2 => .object "java/util/ArrayList"
  | 3 => .object "java/util/ArrayList"
  | 4 => .object "java/util/ArrayList"
  | 5 => .object "java/util/ArrayList"
  | 6 => .object "java/util/ArrayList"
  | 7 => .object "java/util/ArrayList"
  | 8 => .array .int
  | 9 => .object "NetJoins$Joins"
  | 10 => .object "NetJoins$Joins"
  | 11 => .object "NetJoins$NetTable"
  | 12 => .array .int
  | 13 => .array .int
  | 14 => .boolean
  | 15 => .array .int
  | 16 => .int
  | _ => .boolean
theorem n_NJ : ∀ a, a < 18 → ∀ b, b < 18 → a ≠ b → (F_NJ a).2.1 ≠ (F_NJ b).2.1 := by decide +kernel
theorem t_NJ_ok : ∀ k, k < 18 → parseFieldDescriptor (F_NJ k).2.2.1 = some (t_NJ k) := by decide +kernel
theorem iw_NJ_0 : u_lay "NetJoins" F_NJ 0 ∈ WA := wa_t 138 (by decide +kernel) (by decide +kernel)
theorem iw_NJ_1 : u_lay "NetJoins" F_NJ 1 ∈ WA := wa_t 140 (by decide +kernel) (by decide +kernel)
theorem iw_NJ_2 : u_lay "NetJoins" F_NJ 2 ∈ WA := wa_t 142 (by decide +kernel) (by decide +kernel)
theorem iw_NJ_3 : u_lay "NetJoins" F_NJ 3 ∈ WA := wa_t 144 (by decide +kernel) (by decide +kernel)
theorem iw_NJ_4 : u_lay "NetJoins" F_NJ 4 ∈ WA := wa_t 146 (by decide +kernel) (by decide +kernel)
theorem iw_NJ_5 : u_lay "NetJoins" F_NJ 5 ∈ WA := wa_t 148 (by decide +kernel) (by decide +kernel)
theorem iw_NJ_6 : u_lay "NetJoins" F_NJ 6 ∈ WA := wa_t 150 (by decide +kernel) (by decide +kernel)
theorem iw_NJ_7 : u_lay "NetJoins" F_NJ 7 ∈ WA := wa_t 152 (by decide +kernel) (by decide +kernel)
theorem iw_NJ_8 : u_lay "NetJoins" F_NJ 8 ∈ WA := wa_t 154 (by decide +kernel) (by decide +kernel)
theorem iw_NJ_9 : u_lay "NetJoins" F_NJ 9 ∈ WA := wa_t 156 (by decide +kernel) (by decide +kernel)
theorem iw_NJ_10 : u_lay "NetJoins" F_NJ 10 ∈ WA := wa_t 158 (by decide +kernel) (by decide +kernel)
theorem iw_NJ_11 : u_lay "NetJoins" F_NJ 11 ∈ WA := wa_t 160 (by decide +kernel) (by decide +kernel)
theorem iw_NJ_12 : u_lay "NetJoins" F_NJ 12 ∈ WA := wa_t 162 (by decide +kernel) (by decide +kernel)
theorem iw_NJ_13 : u_lay "NetJoins" F_NJ 13 ∈ WA := wa_t 164 (by decide +kernel) (by decide +kernel)
theorem iw_NJ_14 : u_lay "NetJoins" F_NJ 14 ∈ WA := wa_t 166 (by decide +kernel) (by decide +kernel)
theorem iw_NJ_15 : u_lay "NetJoins" F_NJ 15 ∈ WA := wa_t 168 (by decide +kernel) (by decide +kernel)
theorem iw_NJ_16 : u_lay "NetJoins" F_NJ 16 ∈ WA := wa_t 170 (by decide +kernel) (by decide +kernel)
theorem iw_NJ_17 : u_lay "NetJoins" F_NJ 17 ∈ WA := wa_t 172 (by decide +kernel) (by decide +kernel)
theorem i_NJ : ∀ w ∈ u_ws "NetJoins" F_NJ 18, w ∈ WA := by
  intro w hw
  obtain ⟨k, hk, rfl⟩ := List.mem_map.mp hw
  have hk := List.mem_range.mp hk
  match k, hk with
  | 0, _ => exact iw_NJ_0
  | 1, _ => exact iw_NJ_1
  | 2, _ => exact iw_NJ_2
  | 3, _ => exact iw_NJ_3
  | 4, _ => exact iw_NJ_4
  | 5, _ => exact iw_NJ_5
  | 6, _ => exact iw_NJ_6
  | 7, _ => exact iw_NJ_7
  | 8, _ => exact iw_NJ_8
  | 9, _ => exact iw_NJ_9
  | 10, _ => exact iw_NJ_10
  | 11, _ => exact iw_NJ_11
  | 12, _ => exact iw_NJ_12
  | 13, _ => exact iw_NJ_13
  | 14, _ => exact iw_NJ_14
  | 15, _ => exact iw_NJ_15
  | 16, _ => exact iw_NJ_16
  | 17, _ => exact iw_NJ_17
  | k + 18, hk => omega
def F_Bus : u_T := fun k => match k with
  | 0 => ("NetJoins$Bus", "sheet", "I", true)
  | 1 => ("NetJoins$Bus", "name", "I", true)
  | 2 => ("NetJoins$Bus", "from", "I", true)
  | _ => ("NetJoins$Bus", "to", "I", true)
def t_Bus : Nat → FieldType := fun k => match k with
  | 0 => .int
  | 1 => .int
  | 2 => .int
  | _ => .int
theorem n_Bus : ∀ a, a < 4 → ∀ b, b < 4 → a ≠ b → (F_Bus a).2.1 ≠ (F_Bus b).2.1 := by decide +kernel
theorem t_Bus_ok : ∀ k, k < 4 → parseFieldDescriptor (F_Bus k).2.2.1 = some (t_Bus k) := by decide +kernel
theorem iw_Bus_0 : u_lay "NetJoins$Bus" F_Bus 0 ∈ WA := wa_t 1068 (by decide +kernel) (by decide +kernel)
theorem iw_Bus_1 : u_lay "NetJoins$Bus" F_Bus 1 ∈ WA := wa_t 1070 (by decide +kernel) (by decide +kernel)
theorem iw_Bus_2 : u_lay "NetJoins$Bus" F_Bus 2 ∈ WA := wa_t 1072 (by decide +kernel) (by decide +kernel)
theorem iw_Bus_3 : u_lay "NetJoins$Bus" F_Bus 3 ∈ WA := wa_t 1074 (by decide +kernel) (by decide +kernel)
theorem i_Bus : ∀ w ∈ u_ws "NetJoins$Bus" F_Bus 4, w ∈ WA := by
  intro w hw
  obtain ⟨k, hk, rfl⟩ := List.mem_map.mp hw
  have hk := List.mem_range.mp hk
  match k, hk with
  | 0, _ => exact iw_Bus_0
  | 1, _ => exact iw_Bus_1
  | 2, _ => exact iw_Bus_2
  | 3, _ => exact iw_Bus_3
  | k + 4, hk => omega
def F_Joins : u_T := fun k => match k with
  | _ => ("NetJoins$Joins", "up", "[[I", true)
def t_Joins : Nat → FieldType := fun k => match k with
  | _ => .array (.array .int)
theorem n_Joins : ∀ a, a < 1 → ∀ b, b < 1 → a ≠ b → (F_Joins a).2.1 ≠ (F_Joins b).2.1 := by decide +kernel
theorem t_Joins_ok : ∀ k, k < 1 → parseFieldDescriptor (F_Joins k).2.2.1 = some (t_Joins k) := by decide +kernel
theorem iw_Joins_0 : u_lay "NetJoins$Joins" F_Joins 0 ∈ WA := wa_t 81 (by decide +kernel) (by decide +kernel)
theorem i_Joins : ∀ w ∈ u_ws "NetJoins$Joins" F_Joins 1, w ∈ WA := by
  intro w hw
  obtain ⟨k, hk, rfl⟩ := List.mem_map.mp hw
  have hk := List.mem_range.mp hk
  match k, hk with
  | 0, _ => exact iw_Joins_0
  | k + 1, hk => omega
def F_Tab : u_T := fun k => match k with
  | 0 => ("NetJoins$NetTable", "least", "[I", true)
  | 1 => ("NetJoins$NetTable", "leastBefore", "[I", true)
  | 2 => ("NetJoins$NetTable", "net", "[I", true)
  | 3 => ("NetJoins$NetTable", "size", "[I", true)
  | 4 => ("NetJoins$NetTable", "isChanged", "[Z", true)
  | 5 => ("NetJoins$NetTable", "count", "I", false)
  | _ => ("NetJoins$NetTable", "used", "I", false)
def t_Tab : Nat → FieldType := fun k => match k with
  | 0 => .array .int
  | 1 => .array .int
  | 2 => .array .int
  | 3 => .array .int
  | 4 => .array (.boolean)
  | 5 => .int
  | _ => .int
theorem n_Tab : ∀ a, a < 7 → ∀ b, b < 7 → a ≠ b → (F_Tab a).2.1 ≠ (F_Tab b).2.1 := by decide +kernel
theorem t_Tab_ok : ∀ k, k < 7 → parseFieldDescriptor (F_Tab k).2.2.1 = some (t_Tab k) := by decide +kernel
theorem iw_Tab_0 : u_lay "NetJoins$NetTable" F_Tab 0 ∈ WA := wa_t 104 (by decide +kernel) (by decide +kernel)
theorem iw_Tab_1 : u_lay "NetJoins$NetTable" F_Tab 1 ∈ WA := wa_t 106 (by decide +kernel) (by decide +kernel)
theorem iw_Tab_2 : u_lay "NetJoins$NetTable" F_Tab 2 ∈ WA := wa_t 108 (by decide +kernel) (by decide +kernel)
theorem iw_Tab_3 : u_lay "NetJoins$NetTable" F_Tab 3 ∈ WA := wa_t 110 (by decide +kernel) (by decide +kernel)
theorem iw_Tab_4 : u_lay "NetJoins$NetTable" F_Tab 4 ∈ WA := wa_t 112 (by decide +kernel) (by decide +kernel)
theorem iw_Tab_5 : u_lay "NetJoins$NetTable" F_Tab 5 ∈ WA := wa_t 114 (by decide +kernel) (by decide +kernel)
theorem iw_Tab_6 : u_lay "NetJoins$NetTable" F_Tab 6 ∈ WA := wa_t 116 (by decide +kernel) (by decide +kernel)
theorem i_Tab : ∀ w ∈ u_ws "NetJoins$NetTable" F_Tab 7, w ∈ WA := by
  intro w hw
  obtain ⟨k, hk, rfl⟩ := List.mem_map.mp hw
  have hk := List.mem_range.mp hk
  match k, hk with
  | 0, _ => exact iw_Tab_0
  | 1, _ => exact iw_Tab_1
  | 2, _ => exact iw_Tab_2
  | 3, _ => exact iw_Tab_3
  | 4, _ => exact iw_Tab_4
  | 5, _ => exact iw_Tab_5
  | 6, _ => exact iw_Tab_6
  | k + 7, hk => omega
def F_Port : u_T := fun k => match k with
  | 0 => ("NetJoins$Port", "sheet", "I", true)
  | 1 => ("NetJoins$Port", "label", "I", true)
  | 2 => ("NetJoins$Port", "name", "I", true)
  | 3 => ("NetJoins$Port", "inner", "I", true)
  | _ => ("NetJoins$Port", "outer", "I", true)
def t_Port : Nat → FieldType := fun k => match k with
  | 0 => .int
  | 1 => .int
  | 2 => .int
  | 3 => .int
  | _ => .int
theorem n_Port : ∀ a, a < 5 → ∀ b, b < 5 → a ≠ b → (F_Port a).2.1 ≠ (F_Port b).2.1 := by decide +kernel
theorem t_Port_ok : ∀ k, k < 5 → parseFieldDescriptor (F_Port k).2.2.1 = some (t_Port k) := by decide +kernel
theorem iw_Port_0 : u_lay "NetJoins$Port" F_Port 0 ∈ WA := wa_t 1033 (by decide +kernel) (by decide +kernel)
theorem iw_Port_1 : u_lay "NetJoins$Port" F_Port 1 ∈ WA := wa_t 1035 (by decide +kernel) (by decide +kernel)
theorem iw_Port_2 : u_lay "NetJoins$Port" F_Port 2 ∈ WA := wa_t 1037 (by decide +kernel) (by decide +kernel)
theorem iw_Port_3 : u_lay "NetJoins$Port" F_Port 3 ∈ WA := wa_t 1039 (by decide +kernel) (by decide +kernel)
theorem iw_Port_4 : u_lay "NetJoins$Port" F_Port 4 ∈ WA := wa_t 1041 (by decide +kernel) (by decide +kernel)
theorem i_Port : ∀ w ∈ u_ws "NetJoins$Port" F_Port 5, w ∈ WA := by
  intro w hw
  obtain ⟨k, hk, rfl⟩ := List.mem_map.mp hw
  have hk := List.mem_range.mp hk
  match k, hk with
  | 0, _ => exact iw_Port_0
  | 1, _ => exact iw_Port_1
  | 2, _ => exact iw_Port_2
  | 3, _ => exact iw_Port_3
  | 4, _ => exact iw_Port_4
  | k + 5, hk => omega
def F_Sheet : u_T := fun k => match k with
  | 0 => ("NetJoins$Sheet", "number", "I", true)
  | 1 => ("NetJoins$Sheet", "parent", "I", true)
  | 2 => ("NetJoins$Sheet", "drawn", "I", true)
  | 3 => ("NetJoins$Sheet", "copy", "I", true)
  | _ => ("NetJoins$Sheet", "copies", "I", false)
def t_Sheet : Nat → FieldType := fun k => match k with
  | 0 => .int
  | 1 => .int
  | 2 => .int
  | 3 => .int
  | _ => .int
theorem n_Sheet : ∀ a, a < 5 → ∀ b, b < 5 → a ≠ b → (F_Sheet a).2.1 ≠ (F_Sheet b).2.1 := by decide +kernel
theorem t_Sheet_ok : ∀ k, k < 5 → parseFieldDescriptor (F_Sheet k).2.2.1 = some (t_Sheet k) := by decide +kernel
theorem iw_Sheet_0 : u_lay "NetJoins$Sheet" F_Sheet 0 ∈ WA := wa_t 531 (by decide +kernel) (by decide +kernel)
theorem iw_Sheet_1 : u_lay "NetJoins$Sheet" F_Sheet 1 ∈ WA := wa_t 533 (by decide +kernel) (by decide +kernel)
theorem iw_Sheet_2 : u_lay "NetJoins$Sheet" F_Sheet 2 ∈ WA := wa_t 535 (by decide +kernel) (by decide +kernel)
theorem iw_Sheet_3 : u_lay "NetJoins$Sheet" F_Sheet 3 ∈ WA := wa_t 537 (by decide +kernel) (by decide +kernel)
theorem iw_Sheet_4 : u_lay "NetJoins$Sheet" F_Sheet 4 ∈ WA := wa_t 539 (by decide +kernel) (by decide +kernel)
theorem i_Sheet : ∀ w ∈ u_ws "NetJoins$Sheet" F_Sheet 5, w ∈ WA := by
  intro w hw
  obtain ⟨k, hk, rfl⟩ := List.mem_map.mp hw
  have hk := List.mem_range.mp hk
  match k, hk with
  | 0, _ => exact iw_Sheet_0
  | 1, _ => exact iw_Sheet_1
  | 2, _ => exact iw_Sheet_2
  | 3, _ => exact iw_Sheet_3
  | 4, _ => exact iw_Sheet_4
  | k + 5, hk => omega
def F_Spot : u_T := fun k => match k with
  | 0 => ("NetJoins$Spot", "sheet", "I", true)
  | 1 => ("NetJoins$Spot", "x", "J", true)
  | 2 => ("NetJoins$Spot", "y", "J", true)
  | 3 => ("NetJoins$Spot", "mark", "I", true)
  | 4 => ("NetJoins$Spot", "thing", "I", true)
  | _ => ("NetJoins$Spot", "open", "Z", false)
def t_Spot : Nat → FieldType := fun k => match k with
  | 0 => .int
  | 1 => .long
  | 2 => .long
  | 3 => .int
  | 4 => .int
  | _ => .boolean
theorem n_Spot : ∀ a, a < 6 → ∀ b, b < 6 → a ≠ b → (F_Spot a).2.1 ≠ (F_Spot b).2.1 := by decide +kernel
theorem t_Spot_ok : ∀ k, k < 6 → parseFieldDescriptor (F_Spot k).2.2.1 = some (t_Spot k) := by decide +kernel
theorem iw_Spot_0 : u_lay "NetJoins$Spot" F_Spot 0 ∈ WA := wa_t 712 (by decide +kernel) (by decide +kernel)
theorem iw_Spot_1 : u_lay "NetJoins$Spot" F_Spot 1 ∈ WA := wa_t 714 (by decide +kernel) (by decide +kernel)
theorem iw_Spot_2 : u_lay "NetJoins$Spot" F_Spot 2 ∈ WA := wa_t 716 (by decide +kernel) (by decide +kernel)
theorem iw_Spot_3 : u_lay "NetJoins$Spot" F_Spot 3 ∈ WA := wa_t 718 (by decide +kernel) (by decide +kernel)
theorem iw_Spot_4 : u_lay "NetJoins$Spot" F_Spot 4 ∈ WA := wa_t 720 (by decide +kernel) (by decide +kernel)
theorem iw_Spot_5 : u_lay "NetJoins$Spot" F_Spot 5 ∈ WA := wa_t 722 (by decide +kernel) (by decide +kernel)
theorem i_Spot : ∀ w ∈ u_ws "NetJoins$Spot" F_Spot 6, w ∈ WA := by
  intro w hw
  obtain ⟨k, hk, rfl⟩ := List.mem_map.mp hw
  have hk := List.mem_range.mp hk
  match k, hk with
  | 0, _ => exact iw_Spot_0
  | 1, _ => exact iw_Spot_1
  | 2, _ => exact iw_Spot_2
  | 3, _ => exact iw_Spot_3
  | 4, _ => exact iw_Spot_4
  | 5, _ => exact iw_Spot_5
  | k + 6, hk => omega
def F_Wire : u_T := fun k => match k with
  | 0 => ("NetJoins$Wire", "sheet", "I", true)
  | 1 => ("NetJoins$Wire", "number", "I", true)
  | 2 => ("NetJoins$Wire", "x", "J", true)
  | 3 => ("NetJoins$Wire", "y", "J", true)
  | 4 => ("NetJoins$Wire", "x2", "J", true)
  | 5 => ("NetJoins$Wire", "y2", "J", true)
  | _ => ("NetJoins$Wire", "dropped", "Z", false)
def t_Wire : Nat → FieldType := fun k => match k with
  | 0 => .int
  | 1 => .int
  | 2 => .long
  | 3 => .long
  | 4 => .long
  | 5 => .long
  | _ => .boolean
theorem n_Wire : ∀ a, a < 7 → ∀ b, b < 7 → a ≠ b → (F_Wire a).2.1 ≠ (F_Wire b).2.1 := by decide +kernel
theorem t_Wire_ok : ∀ k, k < 7 → parseFieldDescriptor (F_Wire k).2.2.1 = some (t_Wire k) := by decide +kernel
theorem iw_Wire_0 : u_lay "NetJoins$Wire" F_Wire 0 ∈ WA := wa_t 659 (by decide +kernel) (by decide +kernel)
theorem iw_Wire_1 : u_lay "NetJoins$Wire" F_Wire 1 ∈ WA := wa_t 661 (by decide +kernel) (by decide +kernel)
theorem iw_Wire_2 : u_lay "NetJoins$Wire" F_Wire 2 ∈ WA := wa_t 663 (by decide +kernel) (by decide +kernel)
theorem iw_Wire_3 : u_lay "NetJoins$Wire" F_Wire 3 ∈ WA := wa_t 665 (by decide +kernel) (by decide +kernel)
theorem iw_Wire_4 : u_lay "NetJoins$Wire" F_Wire 4 ∈ WA := wa_t 667 (by decide +kernel) (by decide +kernel)
theorem iw_Wire_5 : u_lay "NetJoins$Wire" F_Wire 5 ∈ WA := wa_t 669 (by decide +kernel) (by decide +kernel)
theorem iw_Wire_6 : u_lay "NetJoins$Wire" F_Wire 6 ∈ WA := wa_t 671 (by decide +kernel) (by decide +kernel)
theorem i_Wire : ∀ w ∈ u_ws "NetJoins$Wire" F_Wire 7, w ∈ WA := by
  intro w hw
  obtain ⟨k, hk, rfl⟩ := List.mem_map.mp hw
  have hk := List.mem_range.mp hk
  match k, hk with
  | 0, _ => exact iw_Wire_0
  | 1, _ => exact iw_Wire_1
  | 2, _ => exact iw_Wire_2
  | 3, _ => exact iw_Wire_3
  | 4, _ => exact iw_Wire_4
  | 5, _ => exact iw_Wire_5
  | 6, _ => exact iw_Wire_6
  | k + 7, hk => omega
def F_Mod : u_T := fun k => match k with
  | 0 => ("NetJoinsModel", "thrown", "I", false)
  | 1 => ("NetJoinsModel", "sheets", "I", false)
  | 2 => ("NetJoinsModel", "parents", "[I", true)
  | 3 => ("NetJoinsModel", "bases", "[I", true)
  | 4 => ("NetJoinsModel", "wires", "I", false)
  | 5 => ("NetJoinsModel", "wireSheet", "[I", true)
  | 6 => ("NetJoinsModel", "wireAt", "[J", true)
  | 7 => ("NetJoinsModel", "dropped", "[Z", true)
  | 8 => ("NetJoinsModel", "junctions", "I", false)
  | 9 => ("NetJoinsModel", "junctionSheet", "[I", true)
  | 10 => ("NetJoinsModel", "junctionAt", "[J", true)
  | 11 => ("NetJoinsModel", "labels", "I", false)
  | 12 => ("NetJoinsModel", "labelSheet", "[I", true)
  | 13 => ("NetJoinsModel", "labelName", "[I", true)
  | 14 => ("NetJoinsModel", "labelAt", "[J", true)
  | 15 => ("NetJoinsModel", "pins", "I", false)
  | 16 => ("NetJoinsModel", "pinSheet", "[I", true)
  | 17 => ("NetJoinsModel", "pinPart", "[I", true)
  | 18 => ("NetJoinsModel", "pinAt", "[J", true)
  | 19 => ("NetJoinsModel", "opens", "[Z", true)
  | 20 => ("NetJoinsModel", "ports", "I", false)
  | 21 => ("NetJoinsModel", "port", "[I", true)
  | 22 => ("NetJoinsModel", "buses", "I", false)
  | 23 => ("NetJoinsModel", "bus", "[I", true)
  | 24 => ("NetJoinsModel", "ranks", "[I", true)
  | 25 => ("NetJoinsModel", "near", "[I", true)
  | 26 => ("NetJoinsModel", "netAt", "[I", true)
  | 27 => ("NetJoinsModel", "net", "[I", true)
  | 28 => ("NetJoinsModel", "netBefore", "[I", true)
  | 29 => ("NetJoinsModel", "netCount", "I", false)
  | 30 => ("NetJoinsModel", "isChanged", "[Z", true)
  | 31 => ("NetJoinsModel", "changes", "I", false)
  | _ => ("NetJoinsModel", "hasNets", "Z", false)
def t_Mod : Nat → FieldType := fun k => match k with
  | 0 => .int
  | 1 => .int
  | 2 => .array .int
  | 3 => .array .int
  | 4 => .int
  | 5 => .array .int
  | 6 => .array (.long)
  | 7 => .array (.boolean)
  | 8 => .int
  | 9 => .array .int
  | 10 => .array (.long)
  | 11 => .int
  | 12 => .array .int
  | 13 => .array .int
  | 14 => .array (.long)
  | 15 => .int
  | 16 => .array .int
  | 17 => .array .int
  | 18 => .array (.long)
  | 19 => .array (.boolean)
  | 20 => .int
  | 21 => .array .int
  | 22 => .int
  | 23 => .array .int
  | 24 => .array .int
  | 25 => .array .int
  | 26 => .array .int
  | 27 => .array .int
  | 28 => .array .int
  | 29 => .int
  | 30 => .array (.boolean)
  | 31 => .int
  | _ => .boolean
theorem n_Mod : ∀ a, a < 33 → ∀ b, b < 33 → a ≠ b → (F_Mod a).2.1 ≠ (F_Mod b).2.1 := by decide +kernel
theorem t_Mod_ok : ∀ k, k < 33 → parseFieldDescriptor (F_Mod k).2.2.1 = some (t_Mod k) := by decide +kernel
theorem iw_Mod_0 : u_lay "NetJoinsModel" F_Mod 0 ∈ WA := wa_t 1168 (by decide +kernel) (by decide +kernel)
theorem iw_Mod_1 : u_lay "NetJoinsModel" F_Mod 1 ∈ WA := wa_t 1170 (by decide +kernel) (by decide +kernel)
theorem iw_Mod_2 : u_lay "NetJoinsModel" F_Mod 2 ∈ WA := wa_t 1172 (by decide +kernel) (by decide +kernel)
theorem iw_Mod_3 : u_lay "NetJoinsModel" F_Mod 3 ∈ WA := wa_t 1174 (by decide +kernel) (by decide +kernel)
theorem iw_Mod_4 : u_lay "NetJoinsModel" F_Mod 4 ∈ WA := wa_t 1176 (by decide +kernel) (by decide +kernel)
theorem iw_Mod_5 : u_lay "NetJoinsModel" F_Mod 5 ∈ WA := wa_t 1178 (by decide +kernel) (by decide +kernel)
theorem iw_Mod_6 : u_lay "NetJoinsModel" F_Mod 6 ∈ WA := wa_t 1180 (by decide +kernel) (by decide +kernel)
theorem iw_Mod_7 : u_lay "NetJoinsModel" F_Mod 7 ∈ WA := wa_t 1182 (by decide +kernel) (by decide +kernel)
theorem iw_Mod_8 : u_lay "NetJoinsModel" F_Mod 8 ∈ WA := wa_t 1184 (by decide +kernel) (by decide +kernel)
theorem iw_Mod_9 : u_lay "NetJoinsModel" F_Mod 9 ∈ WA := wa_t 1186 (by decide +kernel) (by decide +kernel)
theorem iw_Mod_10 : u_lay "NetJoinsModel" F_Mod 10 ∈ WA := wa_t 1188 (by decide +kernel) (by decide +kernel)
theorem iw_Mod_11 : u_lay "NetJoinsModel" F_Mod 11 ∈ WA := wa_t 1190 (by decide +kernel) (by decide +kernel)
theorem iw_Mod_12 : u_lay "NetJoinsModel" F_Mod 12 ∈ WA := wa_t 1192 (by decide +kernel) (by decide +kernel)
theorem iw_Mod_13 : u_lay "NetJoinsModel" F_Mod 13 ∈ WA := wa_t 1194 (by decide +kernel) (by decide +kernel)
theorem iw_Mod_14 : u_lay "NetJoinsModel" F_Mod 14 ∈ WA := wa_t 1196 (by decide +kernel) (by decide +kernel)
theorem iw_Mod_15 : u_lay "NetJoinsModel" F_Mod 15 ∈ WA := wa_t 1198 (by decide +kernel) (by decide +kernel)
theorem iw_Mod_16 : u_lay "NetJoinsModel" F_Mod 16 ∈ WA := wa_t 1200 (by decide +kernel) (by decide +kernel)
theorem iw_Mod_17 : u_lay "NetJoinsModel" F_Mod 17 ∈ WA := wa_t 1202 (by decide +kernel) (by decide +kernel)
theorem iw_Mod_18 : u_lay "NetJoinsModel" F_Mod 18 ∈ WA := wa_t 1204 (by decide +kernel) (by decide +kernel)
theorem iw_Mod_19 : u_lay "NetJoinsModel" F_Mod 19 ∈ WA := wa_t 1206 (by decide +kernel) (by decide +kernel)
theorem iw_Mod_20 : u_lay "NetJoinsModel" F_Mod 20 ∈ WA := wa_t 1208 (by decide +kernel) (by decide +kernel)
theorem iw_Mod_21 : u_lay "NetJoinsModel" F_Mod 21 ∈ WA := wa_t 1210 (by decide +kernel) (by decide +kernel)
theorem iw_Mod_22 : u_lay "NetJoinsModel" F_Mod 22 ∈ WA := wa_t 1212 (by decide +kernel) (by decide +kernel)
theorem iw_Mod_23 : u_lay "NetJoinsModel" F_Mod 23 ∈ WA := wa_t 1214 (by decide +kernel) (by decide +kernel)
theorem iw_Mod_24 : u_lay "NetJoinsModel" F_Mod 24 ∈ WA := wa_t 1216 (by decide +kernel) (by decide +kernel)
theorem iw_Mod_25 : u_lay "NetJoinsModel" F_Mod 25 ∈ WA := wa_t 1218 (by decide +kernel) (by decide +kernel)
theorem iw_Mod_26 : u_lay "NetJoinsModel" F_Mod 26 ∈ WA := wa_t 1220 (by decide +kernel) (by decide +kernel)
theorem iw_Mod_27 : u_lay "NetJoinsModel" F_Mod 27 ∈ WA := wa_t 1222 (by decide +kernel) (by decide +kernel)
theorem iw_Mod_28 : u_lay "NetJoinsModel" F_Mod 28 ∈ WA := wa_t 1224 (by decide +kernel) (by decide +kernel)
theorem iw_Mod_29 : u_lay "NetJoinsModel" F_Mod 29 ∈ WA := wa_t 1226 (by decide +kernel) (by decide +kernel)
theorem iw_Mod_30 : u_lay "NetJoinsModel" F_Mod 30 ∈ WA := wa_t 1228 (by decide +kernel) (by decide +kernel)
theorem iw_Mod_31 : u_lay "NetJoinsModel" F_Mod 31 ∈ WA := wa_t 1230 (by decide +kernel) (by decide +kernel)
theorem iw_Mod_32 : u_lay "NetJoinsModel" F_Mod 32 ∈ WA := wa_t 1232 (by decide +kernel) (by decide +kernel)
theorem i_Mod : ∀ w ∈ u_ws "NetJoinsModel" F_Mod 33, w ∈ WA := by
  intro w hw
  obtain ⟨k, hk, rfl⟩ := List.mem_map.mp hw
  have hk := List.mem_range.mp hk
  match k, hk with
  | 0, _ => exact iw_Mod_0
  | 1, _ => exact iw_Mod_1
  | 2, _ => exact iw_Mod_2
  | 3, _ => exact iw_Mod_3
  | 4, _ => exact iw_Mod_4
  | 5, _ => exact iw_Mod_5
  | 6, _ => exact iw_Mod_6
  | 7, _ => exact iw_Mod_7
  | 8, _ => exact iw_Mod_8
  | 9, _ => exact iw_Mod_9
  | 10, _ => exact iw_Mod_10
  | 11, _ => exact iw_Mod_11
  | 12, _ => exact iw_Mod_12
  | 13, _ => exact iw_Mod_13
  | 14, _ => exact iw_Mod_14
  | 15, _ => exact iw_Mod_15
  | 16, _ => exact iw_Mod_16
  | 17, _ => exact iw_Mod_17
  | 18, _ => exact iw_Mod_18
  | 19, _ => exact iw_Mod_19
  | 20, _ => exact iw_Mod_20
  | 21, _ => exact iw_Mod_21
  | 22, _ => exact iw_Mod_22
  | 23, _ => exact iw_Mod_23
  | 24, _ => exact iw_Mod_24
  | 25, _ => exact iw_Mod_25
  | 26, _ => exact iw_Mod_26
  | 27, _ => exact iw_Mod_27
  | 28, _ => exact iw_Mod_28
  | 29, _ => exact iw_Mod_29
  | 30, _ => exact iw_Mod_30
  | 31, _ => exact iw_Mod_31
  | 32, _ => exact iw_Mod_32
  | k + 33, hk => omega
def F_AL : u_T := fun k => match k with
  | 0 => ("java/util/ArrayList", "elementData", "[Ljava/lang/Object;", false)
  | 1 => ("java/util/ArrayList", "size", "I", false)
  | _ => ("java/util/AbstractList", "modCount", "I", false)
def t_AL : Nat → FieldType := fun k => match k with
  | 0 => .array (.object "java/lang/Object")
  | 1 => .int
  | _ => .int
theorem n_AL : ∀ a, a < 3 → ∀ b, b < 3 → a ≠ b → (F_AL a).2.1 ≠ (F_AL b).2.1 := by decide +kernel
theorem t_AL_ok : ∀ k, k < 3 → parseFieldDescriptor (F_AL k).2.2.1 = some (t_AL k) := by decide +kernel
theorem iw_AL_0 : u_lay "java/util/ArrayList" F_AL 0 ∈ WA := wa_t 58 (by decide +kernel) (by decide +kernel)
theorem iw_AL_1 : u_lay "java/util/ArrayList" F_AL 1 ∈ WA := wa_t 60 (by decide +kernel) (by decide +kernel)
theorem iw_AL_2 : u_lay "java/util/ArrayList" F_AL 2 ∈ WA := wa_t 62 (by decide +kernel) (by decide +kernel)
theorem i_AL : ∀ w ∈ u_ws "java/util/ArrayList" F_AL 3, w ∈ WA := by
  intro w hw
  obtain ⟨k, hk, rfl⟩ := List.mem_map.mp hw
  have hk := List.mem_range.mp hk
  match k, hk with
  | 0, _ => exact iw_AL_0
  | 1, _ => exact iw_AL_1
  | 2, _ => exact iw_AL_2
  | k + 3, hk => omega
def vcl : List vw_C := [("NetJoins", F_NJ, 18), ("NetJoins$Bus", F_Bus, 4), ("NetJoins$Joins", F_Joins, 1), ("NetJoins$NetTable", F_Tab, 7), ("NetJoins$Port", F_Port, 5), ("NetJoins$Sheet", F_Sheet, 5), ("NetJoins$Spot", F_Spot, 6), ("NetJoins$Wire", F_Wire, 7), ("NetJoinsModel", F_Mod, 33), ("java/util/ArrayList", F_AL, 3)]
def lk : Nat → List Nat := fun ci => match ci with
  | 0 => [2, 2, 2, 2, 2, 2, 2, 2, 2, 2, 2, 2, 2, 2, 0, 2, 0, 0]
  | 1 => [0, 0, 0, 0]
  | 2 => [2]
  | 3 => [2, 2, 2, 2, 2, 0, 0]
  | 4 => [0, 0, 0, 0, 0]
  | 5 => [0, 0, 0, 0, 0]
  | 6 => [0, 1, 1, 0, 0, 0]
  | 7 => [0, 0, 1, 1, 1, 1, 0]
  | 8 => [0, 0, 2, 2, 0, 2, 2, 2, 0, 2, 2, 0, 2, 2, 2, 0, 2, 2, 2, 2, 0, 2, 0, 2, 2, 2, 2, 2, 2, 0, 2, 0, 0]
  | _ => [2, 0, 0]
end
section
/-! PURE HEAPS. gT: the kind of an address (0: none; 1 int[], 2 boolean[], 3 long[], 4 Object[], 5 int[][], 16 + c: an object of class c of vcl); gI, gJ, gR: int, long, reference fields by field number and address; gN: lengths; gA, gL, gQ: contents of arrays -/
abbrev HS : Type := (Nat → Nat) × (Nat → Nat → Int32) × (Nat → Nat → Int64) × (Nat → Nat → Option Nat) × (Nat → Nat) × (Nat → Nat → Int32) × (Nat → Nat → Int64) × (Nat → Nat → Option Nat)
def gT (h : HS) : Nat → Nat := h.1
def gI (h : HS) : Nat → Nat → Int32 := h.2.1
def gJ (h : HS) : Nat → Nat → Int64 := h.2.2.1
def gR (h : HS) : Nat → Nat → Option Nat := h.2.2.2.1
def gN (h : HS) : Nat → Nat := h.2.2.2.2.1
def gA (h : HS) : Nat → Nat → Int32 := h.2.2.2.2.2.1
def gL (h : HS) : Nat → Nat → Int64 := h.2.2.2.2.2.2.1
def gQ (h : HS) : Nat → Nat → Option Nat := h.2.2.2.2.2.2.2
def sI (h : HS) (f a : Nat) (v : Int32) : HS := (gT h, va_up (gI h) f (va_up (gI h f) a v), gJ h, gR h, gN h, gA h, gL h, gQ h)
def sJ (h : HS) (f a : Nat) (v : Int64) : HS := (gT h, gI h, va_up (gJ h) f (va_up (gJ h f) a v), gR h, gN h, gA h, gL h, gQ h)
def sR (h : HS) (f a : Nat) (v : Option Nat) : HS := (gT h, gI h, gJ h, va_up (gR h) f (va_up (gR h f) a v), gN h, gA h, gL h, gQ h)
/-- a whole new content of an array -/
def wA (h : HS) (a : Nat) (g : Nat → Int32) : HS := (gT h, gI h, gJ h, gR h, gN h, va_up (gA h) a g, gL h, gQ h)
def wL (h : HS) (a : Nat) (g : Nat → Int64) : HS := (gT h, gI h, gJ h, gR h, gN h, gA h, va_up (gL h) a g, gQ h)
def wQ (h : HS) (a : Nat) (g : Nat → Option Nat) : HS := (gT h, gI h, gJ h, gR h, gN h, gA h, gL h, va_up (gQ h) a g)
/-- one place of an array -/
def sA (h : HS) (a i : Nat) (v : Int32) : HS := wA h a (va_up (gA h a) i v)
def sL (h : HS) (a i : Nat) (v : Int64) : HS := wL h a (va_up (gL h a) i v)
def sQ (h : HS) (a i : Nat) (v : Option Nat) : HS := wQ h a (va_up (gQ h a) i v)
/-- a new address q, of kind t, of length n -/
def nH (h : HS) (q t n : Nat) : HS := (va_up (gT h) q t, fun f => va_up (gI h f) q 0, fun f => va_up (gJ h f) q 0, fun f => va_up (gR h f) q none, va_up (gN h) q n, va_up (gA h) q (fun _ => 0), va_up (gL h) q (fun _ => 0), va_up (gQ h) q (fun _ => none))
def fv (h : HS) (a f kd : Nat) : Value := if kd = 1 then .long (gJ h f a) else if kd = 2 then va_rf (gR h f a) else .int (gI h f a)
def fl (h : HS) (a ci : Nat) : List Value := (lk ci).mapIdx (fun k kd => fv h a (100 * ci + k) kd)
theorem fl_at {h : HS} {a ci k kd : Nat} (hk : (lk ci)[k]? = some kd) : (fl h a ci)[k]? = some (fv h a (100 * ci + k) kd) := by
  simp [fl, List.getElem?_mapIdx, hk]
abbrev CS : Type := ClassId × ClassId × ClassId × ClassId × ClassId
def toE (cs : CS) (h : HS) (a : Nat) : va_E :=
  if gT h a = 1 then .inl (cs.1, gN h a, .inl (gA h a))
  else if gT h a = 2 then .inl (cs.2.1, gN h a, .inl (gA h a))
  else if gT h a = 3 then .inl (cs.2.2.1, gN h a, .inr (.inl (gL h a)))
  else if gT h a = 4 then .inl (cs.2.2.2.1, gN h a, .inr (.inr (.inr (.inr (gQ h a)))))
  else if gT h a = 5 then .inl (cs.2.2.2.2, gN h a, .inr (.inr (.inr (.inr (gQ h a)))))
  else .inr (gT h a - 16, fl h a (gT h a - 16))
theorem toE_1 {cs : CS} {h : HS} {a : Nat} (e : gT h a = 1) : toE cs h a = .inl (cs.1, gN h a, .inl (gA h a)) := by simp [toE, e]
theorem toE_2 {cs : CS} {h : HS} {a : Nat} (e : gT h a = 2) : toE cs h a = .inl (cs.2.1, gN h a, .inl (gA h a)) := by simp [toE, e]
theorem toE_3 {cs : CS} {h : HS} {a : Nat} (e : gT h a = 3) : toE cs h a = .inl (cs.2.2.1, gN h a, .inr (.inl (gL h a))) := by simp [toE, e]
theorem toE_4 {cs : CS} {h : HS} {a : Nat} (e : gT h a = 4) : toE cs h a = .inl (cs.2.2.2.1, gN h a, .inr (.inr (.inr (.inr (gQ h a))))) := by simp [toE, e]
theorem toE_5 {cs : CS} {h : HS} {a : Nat} (e : gT h a = 5) : toE cs h a = .inl (cs.2.2.2.2, gN h a, .inr (.inr (.inr (.inr (gQ h a))))) := by simp [toE, e]
theorem toE_o {cs : CS} {h : HS} {a ci : Nat} (e : gT h a = 16 + ci) : toE cs h a = .inr (ci, fl h a ci) := by
  simp only [toE, e, show (16 + ci) - 16 = ci by omega]
  rw [if_neg (by omega), if_neg (by omega), if_neg (by omega), if_neg (by omega), if_neg (by omega)]
/-- the cell of an address depends on what its own address has -/
theorem toE_congr {cs : CS} {h h' : HS} {a : Nat} (e1 : gT h' a = gT h a) (e2 : ∀ f, gI h' f a = gI h f a) (e3 : ∀ f, gJ h' f a = gJ h f a) (e4 : ∀ f, gR h' f a = gR h f a) (e5 : gN h' a = gN h a) (e6 : gA h' a = gA h a) (e7 : gL h' a = gL h a) (e8 : gQ h' a = gQ h a) : toE cs h' a = toE cs h a := by
  simp only [toE, e1, e5, e6, e7, e8, fl, fv, e2, e3, e4]
theorem fl_set {h h' : HS} {a ci k kd : Nat} {v : Value} (hk : (lk ci)[k]? = some kd) (e1 : fv h' a (100 * ci + k) kd = v) (e2 : ∀ j kd', j ≠ k → fv h' a (100 * ci + j) kd' = fv h a (100 * ci + j) kd') : fl h' a ci = (fl h a ci).set k v := by
  apply List.ext_getElem?
  intro j
  by_cases hj : j = k
  · subst hj
    have hl : j < (fl h a ci).length := by
      simp only [fl, List.length_mapIdx]
      exact (List.getElem?_eq_some_iff.mp hk).1
    rw [List.getElem?_set_self hl, fl_at hk, e1]
  · rw [List.getElem?_set_ne (Ne.symm hj)]
    simp only [fl, List.getElem?_mapIdx]
    cases h9 : (lk ci)[j]? with
    | none => rfl
    | some kd' => simp [e2 j kd' hj]
theorem toE_put {cs : CS} {h h' : HS} {a ci k kd : Nat} {v : Value} (ht : gT h a = 16 + ci) (hk : (lk ci)[k]? = some kd) (eT : gT h' = gT h) (e1 : fv h' a (100 * ci + k) kd = v) (e2 : ∀ j kd', j ≠ k → fv h' a (100 * ci + j) kd' = fv h a (100 * ci + j) kd') (e3 : ∀ b, b ≠ a → toE cs h' b = toE cs h b) : toE cs h' = va_up (toE cs h) a (.inr (ci, (fl h a ci).set k v)) := by
  funext b
  by_cases hb : b = a
  · subst hb
    rw [va_up_self, toE_o (ci := ci) (by rw [eT]; exact ht), fl_set hk e1 e2]
  · rw [va_up_ne _ _ hb, e3 b hb]
theorem toE_sI {cs : CS} {h : HS} {a ci k : Nat} {v : Int32} (ht : gT h a = 16 + ci) (hk : (lk ci)[k]? = some 0) : toE cs (sI h (100 * ci + k) a v) = va_up (toE cs h) a (.inr (ci, (fl h a ci).set k (.int v))) := by
  refine toE_put ht hk rfl ?_ ?_ ?_
  · simp [fv, gI, sI, va_up]
  · intro j kd' hj
    have : ¬ (100 * ci + j = 100 * ci + k) := by omega
    simp only [fv]
    simp [gI, gJ, gR, sI, va_up, hj]
  · intro b hb
    refine toE_congr rfl (fun f => ?_) (fun _ => rfl) (fun _ => rfl) rfl rfl rfl rfl
    by_cases e : f = 100 * ci + k <;> simp [gI, sI, va_up, e, hb]
theorem toE_sJ {cs : CS} {h : HS} {a ci k : Nat} {v : Int64} (ht : gT h a = 16 + ci) (hk : (lk ci)[k]? = some 1) : toE cs (sJ h (100 * ci + k) a v) = va_up (toE cs h) a (.inr (ci, (fl h a ci).set k (.long v))) := by
  refine toE_put ht hk rfl ?_ ?_ ?_
  · simp [fv, gJ, sJ, va_up]
  · intro j kd' hj
    simp only [fv]
    simp [gI, gJ, gR, sJ, va_up, hj]
  · intro b hb
    refine toE_congr rfl (fun _ => rfl) (fun f => ?_) (fun _ => rfl) rfl rfl rfl rfl
    by_cases e : f = 100 * ci + k <;> simp [gJ, sJ, va_up, e, hb]
theorem toE_sR {cs : CS} {h : HS} {a ci k : Nat} {v : Option Nat} (ht : gT h a = 16 + ci) (hk : (lk ci)[k]? = some 2) : toE cs (sR h (100 * ci + k) a v) = va_up (toE cs h) a (.inr (ci, (fl h a ci).set k (va_rf v))) := by
  refine toE_put ht hk rfl ?_ ?_ ?_
  · simp [fv, gR, sR, va_up]
  · intro j kd' hj
    simp only [fv]
    simp [gI, gJ, gR, sR, va_up, hj]
  · intro b hb
    refine toE_congr rfl (fun _ => rfl) (fun _ => rfl) (fun f => ?_) rfl rfl rfl rfl
    by_cases e : f = 100 * ci + k <;> simp [gR, sR, va_up, e, hb]
theorem toE_wA {cs : CS} {h : HS} {a : Nat} {g : Nat → Int32} {x : va_E} (hx : toE cs (wA h a g) a = x) : toE cs (wA h a g) = va_up (toE cs h) a x := by
  funext b
  by_cases hb : b = a
  · subst hb; rw [va_up_self, hx]
  · rw [va_up_ne _ _ hb]
    exact toE_congr rfl (fun _ => rfl) (fun _ => rfl) (fun _ => rfl) rfl (by simp [gA, wA, va_up, hb]) rfl rfl
theorem toE_wL {cs : CS} {h : HS} {a : Nat} {g : Nat → Int64} {x : va_E} (hx : toE cs (wL h a g) a = x) : toE cs (wL h a g) = va_up (toE cs h) a x := by
  funext b
  by_cases hb : b = a
  · subst hb; rw [va_up_self, hx]
  · rw [va_up_ne _ _ hb]
    exact toE_congr rfl (fun _ => rfl) (fun _ => rfl) (fun _ => rfl) rfl rfl (by simp [gL, wL, va_up, hb]) rfl
theorem toE_wQ {cs : CS} {h : HS} {a : Nat} {g : Nat → Option Nat} {x : va_E} (hx : toE cs (wQ h a g) a = x) : toE cs (wQ h a g) = va_up (toE cs h) a x := by
  funext b
  by_cases hb : b = a
  · subst hb; rw [va_up_self, hx]
  · rw [va_up_ne _ _ hb]
    exact toE_congr rfl (fun _ => rfl) (fun _ => rfl) (fun _ => rfl) rfl rfl rfl (by simp [gQ, wQ, va_up, hb])
theorem toE_nH {cs : CS} {h : HS} {q t n : Nat} {x : va_E} (hx : toE cs (nH h q t n) q = x) : toE cs (nH h q t n) = va_up (toE cs h) q x := by
  funext b
  by_cases hb : b = q
  · subst hb; rw [va_up_self, hx]
  · rw [va_up_ne _ _ hb]
    exact toE_congr (by simp [gT, nH, va_up, hb]) (fun _ => by simp [gI, nH, va_up, hb]) (fun _ => by simp [gJ, nH, va_up, hb]) (fun _ => by simp [gR, nH, va_up, hb]) (by simp [gN, nH, va_up, hb]) (by simp [gA, nH, va_up, hb]) (by simp [gL, nH, va_up, hb]) (by simp [gQ, nH, va_up, hb])
theorem gA_wA (h : HS) (a : Nat) (g : Nat → Int32) : gA (wA h a g) a = g := by simp [gA, wA, va_up]
theorem gL_wL (h : HS) (a : Nat) (g : Nat → Int64) : gL (wL h a g) a = g := by simp [gL, wL, va_up]
theorem gQ_wQ (h : HS) (a : Nat) (g : Nat → Option Nat) : gQ (wQ h a g) a = g := by simp [gQ, wQ, va_up]
theorem gT_nH (h : HS) (q t n : Nat) : gT (nH h q t n) q = t := by simp [gT, nH, va_up]
/-! THE MACHINE's HEAP HOLDS A PURE ONE -/
def mP (D : va_G) (cs : CS) (A : Nat → Prop) (h : HS) (H : Heap) : Prop := ∃ L : List Nat, (∀ a, a ∈ L ↔ gT h a ≠ 0) ∧ va_P D vcl ([] ++ va_pl L (toE cs h)) H ∧ va_D A ([] ++ va_pl L (toE cs h))
def mR (D : va_G) (cs : CS) (A : Nat → Prop) (h : HS) (H0 H : Heap) (locs : List Loc) : Prop := mP D cs A h H ∧ va_S A H0 H locs
def mtys (cs : CS) : List (ClassId × FieldType) := [(cs.1, .int), (cs.2.1, .boolean), (cs.2.2.1, .long), (cs.2.2.2.1, .object "java/lang/Object"), (cs.2.2.2.2, .array .int)]
theorem mP.at {D : va_G} {cs : CS} {A : Nat → Prop} {h : HS} {H : Heap} (hP : mP D cs A h H) {a : Nat} (ht : gT h a ≠ 0) : va_at D vcl (a, toE cs h a) H ∧ A a := by
  obtain ⟨L, hL, hP, hD⟩ := hP
  obtain ⟨k, hk⟩ := va_pl_get (X := []) (f := toE cs h) ((hL a).mpr ht)
  exact ⟨hP k _ hk, hD.2 k _ hk⟩
/-- a cell is written -/
theorem mP.put {D : va_G} {cs : CS} {A : Nat → Prop} {h h' : HS} {H1 : Heap} {L : List Nat} {k a : Nat} {x : va_E} (hL : ∀ a, a ∈ L ↔ gT h a ≠ 0) (hD : va_D A ([] ++ va_pl L (toE cs h))) (hk : ([] ++ va_pl L (toE cs h))[k]? = some (a, toE cs h a)) (hm : a ∈ L) (eT : gT h' = gT h) (e : toE cs h' = va_up (toE cs h) a x) (hP1 : va_P D vcl (([] ++ va_pl L (toE cs h)).set k (a, x)) H1) (hD1 : va_D A (([] ++ va_pl L (toE cs h)).set k (a, x))) : mP D cs A h' H1 := by
  rw [va_pl_set hD hm hk] at hP1 hD1
  exact ⟨L, fun b => by rw [eT]; exact hL b, by rw [e]; exact hP1, by rw [e]; exact hD1⟩
/-- a cell is made -/
theorem mP.new {D : va_G} {cs : CS} {A : Nat → Prop} {h : HS} {H1 : Heap} {L : List Nat} {q t n : Nat} {x : va_E} (hL : ∀ a, a ∈ L ↔ gT h a ≠ 0) (ht : t ≠ 0) (hx : toE cs (nH h q t n) q = x) (hP1 : va_P D vcl (([] ++ va_pl L (toE cs h)) ++ [(q, x)]) H1) (hD1 : va_D A (([] ++ va_pl L (toE cs h)) ++ [(q, x)])) : mP D cs A (nH h q t n) H1 ∧ gT h q = 0 := by
  have hq : q ∉ L := va_pl_fresh2 hD1
  have h0 : gT h q = 0 := Classical.byContradiction fun z => hq ((hL q).mpr z)
  refine ⟨⟨L ++ [q], fun b => ?_, ?_, ?_⟩, h0⟩
  · rw [List.mem_append, List.mem_singleton, hL b]
    by_cases hb : b = q
    · subst hb; simp [gT_nH, ht]
    · simp [gT, nH, va_up, hb]
  · rw [toE_nH hx]
    rw [List.nil_append, va_pl_push hq] at hP1
    exact hP1
  · rw [toE_nH hx]
    rw [List.nil_append, va_pl_push hq] at hD1
    exact hD1
end
section
/-! ROWS OVER PURE HEAPS, an instruction each -/
section MXA
variable {p : Program} {l : Launch} {e : Env} {R : Room} {s : State} {m : MethodId} {args : Array Value} {below : List Frame} {meth : Method} {c : Code} {H : Heap} {locs : List Loc} {cells slots : Nat} {Q : State → Prop}
variable {cc : ByteArray} {pc : Nat} {ls : Array Slot} {rest : List Value} {D : va_G} {cs : CS} {A : Nat → Prop} {h : HS} {H0 : Heap} {r : Option Nat} {a : Nat}
theorem mx_get (hx : p.tables.exec = Jvm.exec) (hb : c.code = cc) (hW : ∀ w ∈ WA, w.before args s = true) {own ref C : String} {T : u_T} {N ci index : Nat} (hown : s.vm.findClass own = some m.cls) (hK : va_K D vcl (mtys cs) s) (hR : mR D cs A h H0 H locs) (er : r = some a) (ht : gT h a = 16 + ci) (hc : vcl[ci]? = some (C, T, N)) (hin : ∀ w ∈ u_ws C T N, w ∈ WA) (k kd : Nat) (hk : k < N) (hkd : (lk ci)[k]? = some kd) (hlink : Cond.fieldLink own index ref (T k).2.1 (T k).2.2.1 ∈ WA) (hsame : ∀ x, s.fieldFound? (T k).1 (T k).2.1 (T k).2.2.1 = some x → s.fieldFound? ref (T k).2.1 (T k).2.2.1 = some x) (hdg : decode cc pc = .ok (.getfield index, 3))
    (kk : W p l e R s m args below meth c H locs cells slots Q (F0 m (pc + 3) ls (fv h a (100 * ci + k) kd :: rest))) : W p l e R s m args below meth c H locs cells slots Q (F0 m pc ls (va_rf r :: rest)) := by
  subst er
  obtain ⟨⟨L, hL, hP, hD⟩, hS⟩ := hR
  obtain ⟨q0, hq⟩ := va_pl_get (X := []) (f := toE cs h) ((hL a).mpr (by rw [ht]; omega))
  rw [toE_o ht] at hq
  exact va_get hx hb hW hin hown hK hP q0 hq hc k hk (hW _ hlink) hsame (fl_at hkd) hdg kk
theorem mx_put (hx : p.tables.exec = Jvm.exec) (hb : c.code = cc) (hW : ∀ w ∈ WA, w.before args s = true) {own ref C : String} {T : u_T} {N ci index : Nat} (hown : s.vm.findClass own = some m.cls) (hK : va_K D vcl (mtys cs) s) (hR : mR D cs A h H0 H locs) (er : r = some a) (ht : gT h a = 16 + ci) (hc : vcl[ci]? = some (C, T, N)) (hin : ∀ w ∈ u_ws C T N, w ∈ WA) (ty0 : Nat → FieldType) (hty : ∀ k, k < N → parseFieldDescriptor (T k).2.2.1 = some (ty0 k)) (hnm : ∀ a, a < N → ∀ b, b < N → a ≠ b → (T a).2.1 ≠ (T b).2.1) (k kd : Nat) (hk : k < N) (hkd : (lk ci)[k]? = some kd) (hlink : Cond.fieldLink own index ref (T k).2.1 (T k).2.2.1 ∈ WA) (hsame : ∀ x, s.fieldFound? (T k).1 (T k).2.1 (T k).2.2.1 = some x → s.fieldFound? ref (T k).2.1 (T k).2.2.1 = some x) (hfin : (T k).2.2.2 = false) {v : Value} (hn : narrow (ty0 k) v = v) (hfit : fits (ty0 k) v = true) (hdg : decode cc pc = .ok (.putfield index, 3)) {h' : HS} (eT : gT h' = gT h) (e' : toE cs h' = va_up (toE cs h) a (.inr (ci, (fl h a ci).set k v)))
    (kk : ∀ (H1 : Heap) (locs1 : List Loc), mR D cs A h' H0 H1 locs1 → W p l e R s m args below meth c H1 locs1 cells slots Q (F0 m (pc + 3) ls rest)) : W p l e R s m args below meth c H locs cells slots Q (F0 m pc ls (v :: va_rf r :: rest)) := by
  subst er
  obtain ⟨⟨L, hL, hP, hD⟩, hS⟩ := hR
  have hm : a ∈ L := (hL a).mpr (by rw [ht]; omega)
  obtain ⟨q0, hq⟩ := va_pl_get (X := []) (f := toE cs h) hm
  have hq' := hq
  rw [toE_o ht] at hq'
  have hl : k < (fl h a ci).length := by
    simp only [fl, List.length_mapIdx]
    exact (List.getElem?_eq_some_iff.mp hkd).1
  exact va_put hx hb hW hin ty0 hty hnm hown hK hP hD hS q0 hq' hc k hk (hW _ hlink) hsame hfin (hty k hk) hn hfit hl hdg fun H1 locs1 hP1 hD1 hS1 => kk H1 locs1 ⟨mP.put hL hD hq hm eT e' hP1 hD1, hS1⟩
theorem mx_putF (hx : p.tables.exec = Jvm.exec) (hb : c.code = cc) (hW : ∀ w ∈ WA, w.before args s = true) {own ref C : String} {T : u_T} {N ci index : Nat} (hown : s.vm.findClass own = some m.cls) (hK : va_K D vcl (mtys cs) s) (hR : mR D cs A h H0 H locs) (er : r = some a) (ht : gT h a = 16 + ci) (hc : vcl[ci]? = some (C, T, N)) (hin : ∀ w ∈ u_ws C T N, w ∈ WA) (ty0 : Nat → FieldType) (hty : ∀ k, k < N → parseFieldDescriptor (T k).2.2.1 = some (ty0 k)) (hnm : ∀ a, a < N → ∀ b, b < N → a ≠ b → (T a).2.1 ≠ (T b).2.1) (k kd : Nat) (hk : k < N) (hkd : (lk ci)[k]? = some kd) (hlink : Cond.fieldLink own index ref (T k).2.1 (T k).2.2.1 ∈ WA) (hsame : ∀ x, s.fieldFound? (T k).1 (T k).2.1 (T k).2.2.1 = some x → s.fieldFound? ref (T k).2.1 (T k).2.2.1 = some x) (hfin : (T k).2.2.2 = true) (hin2 : meth.name = "<init>") (hdecl : (T k).1 = own) {v : Value} (hn : narrow (ty0 k) v = v) (hfit : fits (ty0 k) v = true) (hdg : decode cc pc = .ok (.putfield index, 3)) {h' : HS} (eT : gT h' = gT h) (e' : toE cs h' = va_up (toE cs h) a (.inr (ci, (fl h a ci).set k v)))
    (kk : ∀ (H1 : Heap) (locs1 : List Loc), mR D cs A h' H0 H1 locs1 → W p l e R s m args below meth c H1 locs1 cells slots Q (F0 m (pc + 3) ls rest)) : W p l e R s m args below meth c H locs cells slots Q (F0 m pc ls (v :: va_rf r :: rest)) := by
  subst er
  obtain ⟨⟨L, hL, hP, hD⟩, hS⟩ := hR
  have hm : a ∈ L := (hL a).mpr (by rw [ht]; omega)
  obtain ⟨q0, hq⟩ := va_pl_get (X := []) (f := toE cs h) hm
  have hq' := hq
  rw [toE_o ht] at hq'
  have hl : k < (fl h a ci).length := by
    simp only [fl, List.length_mapIdx]
    exact (List.getElem?_eq_some_iff.mp hkd).1
  exact va_putF hx hb hW hin ty0 hty hnm hown hK hP hD hS q0 hq' hc k hk (hW _ hlink) hsame hfin hin2 hdecl (hty k hk) hn hfit hl hdg fun H1 locs1 hP1 hD1 hS1 => kk H1 locs1 ⟨mP.put hL hD hq hm eT e' hP1 hD1, hS1⟩
theorem mx_rf_n (t : FieldType) (h : t.isReference = true) (v : Option Nat) : narrow t (va_rf v) = va_rf v ∧ fits t (va_rf v) = true := by
  cases t <;> first | (cases v <;> exact ⟨rfl, rfl⟩) | (exact absurd h (by decide))
theorem mx_z_n {x : Int32} (h : x = 0 ∨ x = 1) : narrow .boolean (.int x) = .int x ∧ fits .boolean (.int x) = true := by
  rcases h with rfl | rfl <;> exact ⟨by decide +kernel, by decide +kernel⟩
/-! arrays -/
theorem mx_iald (hx : p.tables.exec = Jvm.exec) (hb : c.code = cc) (hK : va_K D vcl (mtys cs) s) (hR : mR D cs A h H0 H locs) (er : r = some a) (ht : gT h a = 1) {i : Int32} (hin : vp_in i (gN h a)) (hdg : decode cc pc = .ok (.iaload, 1))
    (kk : W p l e R s m args below meth c H locs cells slots Q (F0 m (pc + 1) ls (.int (gA h a i.toNatClampNeg) :: rest))) : W p l e R s m args below meth c H locs cells slots Q (F0 m pc ls (.int i :: va_rf r :: rest)) := by
  subst er
  obtain ⟨⟨L, hL, hP, hD⟩, hS⟩ := hR
  obtain ⟨q0, hq⟩ := va_pl_get (X := []) (f := toE cs h) ((hL a).mpr (by rw [ht]; omega))
  rw [toE_1 ht] at hq
  exact va_iald hx hb hK hP q0 0 hq rfl hin hdg kk
theorem mx_zald (hx : p.tables.exec = Jvm.exec) (hb : c.code = cc) (hK : va_K D vcl (mtys cs) s) (hR : mR D cs A h H0 H locs) (er : r = some a) (ht : gT h a = 2) {i : Int32} (hin : vp_in i (gN h a)) (hdg : decode cc pc = .ok (.baload, 1))
    (kk : W p l e R s m args below meth c H locs cells slots Q (F0 m (pc + 1) ls (.int (gA h a i.toNatClampNeg) :: rest))) : W p l e R s m args below meth c H locs cells slots Q (F0 m pc ls (.int i :: va_rf r :: rest)) := by
  subst er
  obtain ⟨⟨L, hL, hP, hD⟩, hS⟩ := hR
  obtain ⟨q0, hq⟩ := va_pl_get (X := []) (f := toE cs h) ((hL a).mpr (by rw [ht]; omega))
  rw [toE_2 ht] at hq
  exact va_zald hx hb hK hP q0 1 hq rfl hin hdg kk
theorem mx_lald (hx : p.tables.exec = Jvm.exec) (hb : c.code = cc) (hK : va_K D vcl (mtys cs) s) (hR : mR D cs A h H0 H locs) (er : r = some a) (ht : gT h a = 3) {i : Int32} (hin : vp_in i (gN h a)) (hdg : decode cc pc = .ok (.laload, 1))
    (kk : W p l e R s m args below meth c H locs cells slots Q (F0 m (pc + 1) ls (.long (gL h a i.toNatClampNeg) :: rest))) : W p l e R s m args below meth c H locs cells slots Q (F0 m pc ls (.int i :: va_rf r :: rest)) := by
  subst er
  obtain ⟨⟨L, hL, hP, hD⟩, hS⟩ := hR
  obtain ⟨q0, hq⟩ := va_pl_get (X := []) (f := toE cs h) ((hL a).mpr (by rw [ht]; omega))
  rw [toE_3 ht] at hq
  exact va_lald hx hb hK hP q0 2 hq rfl hin hdg kk
theorem mx_oald (hx : p.tables.exec = Jvm.exec) (hb : c.code = cc) (hK : va_K D vcl (mtys cs) s) (hR : mR D cs A h H0 H locs) (er : r = some a) (ht : gT h a = 4) {i : Int32} (hin : vp_in i (gN h a)) (hdg : decode cc pc = .ok (.aaload, 1))
    (kk : W p l e R s m args below meth c H locs cells slots Q (F0 m (pc + 1) ls (va_rf (gQ h a i.toNatClampNeg) :: rest))) : W p l e R s m args below meth c H locs cells slots Q (F0 m pc ls (.int i :: va_rf r :: rest)) := by
  subst er
  obtain ⟨⟨L, hL, hP, hD⟩, hS⟩ := hR
  obtain ⟨q0, hq⟩ := va_pl_get (X := []) (f := toE cs h) ((hL a).mpr (by rw [ht]; omega))
  rw [toE_4 ht] at hq
  exact va_aldq hx hb hK hP q0 3 hq rfl hin hdg kk
theorem mx_rald (hx : p.tables.exec = Jvm.exec) (hb : c.code = cc) (hK : va_K D vcl (mtys cs) s) (hR : mR D cs A h H0 H locs) (er : r = some a) (ht : gT h a = 5) {i : Int32} (hin : vp_in i (gN h a)) (hdg : decode cc pc = .ok (.aaload, 1))
    (kk : W p l e R s m args below meth c H locs cells slots Q (F0 m (pc + 1) ls (va_rf (gQ h a i.toNatClampNeg) :: rest))) : W p l e R s m args below meth c H locs cells slots Q (F0 m pc ls (.int i :: va_rf r :: rest)) := by
  subst er
  obtain ⟨⟨L, hL, hP, hD⟩, hS⟩ := hR
  obtain ⟨q0, hq⟩ := va_pl_get (X := []) (f := toE cs h) ((hL a).mpr (by rw [ht]; omega))
  rw [toE_5 ht] at hq
  have hlt : i.toNatClampNeg < gN h a := Nat.not_le.mp fun q => hin (Or.inr q)
  exact W.aald (v := va_rf (gQ h a i.toNatClampNeg)) (ty := .array .int) hx hb (hP q0 _ hq) ((hK.2 4 (cs.2.2.2.2, .array .int) rfl).1 (gN h a) (fun j => va_rf (gQ h a j))) rfl (fun q => by cases q) (by show ¬ (i < 0 ∨ (arrV _ _ _).slots.size ≤ _); rw [arrV_size]; exact hin) (by show (arrV _ _ _).slots[_]? = _; rw [arrV_read _ _ hlt]) rfl rfl hdg kk
theorem mx_alen (hx : p.tables.exec = Jvm.exec) (hb : c.code = cc) (hK : va_K D vcl (mtys cs) s) (hR : mR D cs A h H0 H locs) (er : r = some a) (ht : gT h a ≠ 0) (ht2 : gT h a < 6) (hdg : decode cc pc = .ok (.arraylength, 1))
    (kk : W p l e R s m args below meth c H locs cells slots Q (F0 m (pc + 1) ls (.int (nI (gN h a)) :: rest))) : W p l e R s m args below meth c H locs cells slots Q (F0 m pc ls (va_rf r :: rest)) := by
  subst er
  obtain ⟨⟨L, hL, hP, hD⟩, hS⟩ := hR
  obtain ⟨q0, hq⟩ := va_pl_get (X := []) (f := toE cs h) ((hL a).mpr ht)
  rcases (show gT h a = 1 ∨ gT h a = 2 ∨ gT h a = 3 ∨ gT h a = 4 ∨ gT h a = 5 by omega) with z | z | z | z | z
  · rw [toE_1 z] at hq
    exact va_alen hx hb hK hP q0 0 hq rfl rfl hdg kk
  · rw [toE_2 z] at hq
    exact va_alen hx hb hK hP q0 1 hq rfl rfl hdg kk
  · rw [toE_3 z] at hq
    exact va_alen hx hb hK hP q0 2 hq rfl rfl hdg kk
  · rw [toE_4 z] at hq
    exact va_alen hx hb hK hP q0 3 hq rfl rfl hdg kk
  · rw [toE_5 z] at hq
    exact va_alen hx hb hK hP q0 4 hq rfl rfl hdg kk
theorem mx_iast (hx : p.tables.exec = Jvm.exec) (hb : c.code = cc) (hK : va_K D vcl (mtys cs) s) (hR : mR D cs A h H0 H locs) (er : r = some a) (ht : gT h a = 1) {i x : Int32} (hin : vp_in i (gN h a)) (hdg : decode cc pc = .ok (.iastore, 1))
    (kk : ∀ (H1 : Heap) (locs1 : List Loc), mR D cs A (sA h a i.toNatClampNeg x) H0 H1 locs1 → W p l e R s m args below meth c H1 locs1 cells slots Q (F0 m (pc + 1) ls rest)) : W p l e R s m args below meth c H locs cells slots Q (F0 m pc ls (.int x :: .int i :: va_rf r :: rest)) := by
  subst er
  obtain ⟨⟨L, hL, hP, hD⟩, hS⟩ := hR
  have hm : a ∈ L := (hL a).mpr (by rw [ht]; omega)
  obtain ⟨q0, hq⟩ := va_pl_get (X := []) (f := toE cs h) hm
  have hq' := hq
  rw [toE_1 ht] at hq'
  exact va_iast hx hb hK hP hD hS q0 0 hq' rfl hin hdg fun H1 locs1 hP1 hD1 hS1 => kk H1 locs1 ⟨mP.put hL hD hq hm rfl (toE_wA (by rw [toE_1 (by exact ht), gA_wA]; rfl)) hP1 hD1, hS1⟩
theorem mx_zast (hx : p.tables.exec = Jvm.exec) (hb : c.code = cc) (hK : va_K D vcl (mtys cs) s) (hR : mR D cs A h H0 H locs) (er : r = some a) (ht : gT h a = 2) {i x : Int32} (hz : x = 0 ∨ x = 1) (hin : vp_in i (gN h a)) (hdg : decode cc pc = .ok (.bastore, 1))
    (kk : ∀ (H1 : Heap) (locs1 : List Loc), mR D cs A (sA h a i.toNatClampNeg x) H0 H1 locs1 → W p l e R s m args below meth c H1 locs1 cells slots Q (F0 m (pc + 1) ls rest)) : W p l e R s m args below meth c H locs cells slots Q (F0 m pc ls (.int x :: .int i :: va_rf r :: rest)) := by
  subst er
  obtain ⟨⟨L, hL, hP, hD⟩, hS⟩ := hR
  have hm : a ∈ L := (hL a).mpr (by rw [ht]; omega)
  obtain ⟨q0, hq⟩ := va_pl_get (X := []) (f := toE cs h) hm
  have hq' := hq
  rw [toE_2 ht] at hq'
  have hv : vp_nar .boolean x = x := by simp only [vp_nar, (mx_z_n hz).1]
  refine va_zast hx hb hK hP hD hS q0 1 hq' rfl hin hdg fun H1 locs1 hP1 hD1 hS1 => kk H1 locs1 ⟨mP.put hL hD hq hm rfl (toE_wA (by rw [toE_2 (by exact ht), gA_wA]; try rfl)) (by rw [hv] at hP1; exact hP1) (by rw [hv] at hD1; exact hD1), hS1⟩
theorem mx_last (hx : p.tables.exec = Jvm.exec) (hb : c.code = cc) (hK : va_K D vcl (mtys cs) s) (hR : mR D cs A h H0 H locs) (er : r = some a) (ht : gT h a = 3) {i : Int32} {x : Int64} (hin : vp_in i (gN h a)) (hdg : decode cc pc = .ok (.lastore, 1))
    (kk : ∀ (H1 : Heap) (locs1 : List Loc), mR D cs A (sL h a i.toNatClampNeg x) H0 H1 locs1 → W p l e R s m args below meth c H1 locs1 cells slots Q (F0 m (pc + 1) ls rest)) : W p l e R s m args below meth c H locs cells slots Q (F0 m pc ls (.long x :: .int i :: va_rf r :: rest)) := by
  subst er
  obtain ⟨⟨L, hL, hP, hD⟩, hS⟩ := hR
  have hm : a ∈ L := (hL a).mpr (by rw [ht]; omega)
  obtain ⟨q0, hq⟩ := va_pl_get (X := []) (f := toE cs h) hm
  have hq' := hq
  rw [toE_3 ht] at hq'
  exact va_last hx hb hK hP hD hS q0 2 hq' rfl hin hdg fun H1 locs1 hP1 hD1 hS1 => kk H1 locs1 ⟨mP.put hL hD hq hm rfl (toE_wL (by rw [toE_3 (by exact ht), gL_wL]; rfl)) hP1 hD1, hS1⟩
/-! new objects and arrays -/
theorem mx_new (hx : p.tables.exec = Jvm.exec) (hb : c.code = cc) (hW : ∀ w ∈ WA, w.before args s = true) {own C : String} {T : u_T} {N ci index : Nat} (hown : s.vm.findClass own = some m.cls) (hK : va_K D vcl (mtys cs) s) (hR : mR D cs A h H0 H locs) (hA : ∀ q, H0.size ≤ q → A q) (hc : vcl[ci]? = some (C, T, N)) (hin : ∀ w ∈ u_ws C T N, w ∈ WA) (ty : Nat → FieldType) (hty : ∀ k, k < N → parseFieldDescriptor (T k).2.2.1 = some (ty k)) (hcl : Cond.classLink own index C ∈ WA) (hinst : Cond.instantiable C N ∈ WA) (hini : Cond.initialized C ∈ WA) (hfs : ∀ (q j : Nat), j < N → defaultValue (ty j) = vp_V (fl (nH h q (16 + ci) 0) q ci) j) (hcells : cells + 1 ≤ R.cells) (hslots : slots + N ≤ R.slots) (hdg : decode cc pc = .ok (.new index, 3))
    (kk : ∀ (q : Nat) (H1 : Heap), gT h q = 0 → mR D cs A (nH h q (16 + ci) 0) H0 H1 locs → W p l e R s m args below meth c H1 locs (cells + 1) (slots + N) Q (F0 m (pc + 3) ls (va_rf (some q) :: rest))) : W p l e R s m args below meth c H locs cells slots Q (F0 m pc ls rest) := by
  obtain ⟨⟨L, hL, hP, hD⟩, hS⟩ := hR
  refine va_new (fs := fl (nH h H.size (16 + ci) 0) H.size ci) hx hb hW hin ty hty hown (hW _ hcl) (hW _ hinst) (hW _ hini) hK hP hD hS hA hc (fun j hj => hfs H.size j hj) hcells hslots hdg fun q H1 hP1 hD1 hS1 => ?_
  have hfl : fl (nH h H.size (16 + ci) 0) H.size ci = fl (nH h q (16 + ci) 0) q ci := by
    simp only [fl, fv]
    simp [gI, gJ, gR, nH, va_up]
  rw [hfl] at hP1 hD1
  obtain ⟨h1, h2⟩ := mP.new (t := 16 + ci) (n := 0) hL (by omega) (toE_o (gT_nH h q (16 + ci) 0)) hP1 hD1
  exact kk q H1 h2 ⟨h1, hS1⟩
theorem mx_arr_i (hx : p.tables.exec = Jvm.exec) (hb : c.code = cc) (hW : ∀ w ∈ WA, w.before args s = true) (hK : va_K D vcl (mtys cs) s) (hR : mR D cs A h H0 H locs) (hA : ∀ q, H0.size ≤ q → A q) (harr : Cond.arrayClass .int ∈ WA) {n : Int32} {N' : Nat} (hn : ¬ n < 0) (hN : n.toNatClampNeg = N') (hbytes : N' ≤ 100000) (hcells : cells + 1 ≤ R.cells) (hslots : slots + N' ≤ R.slots) (hdg : decode cc pc = .ok (.newarray .int, 2))
    (kk : ∀ (q : Nat) (H1 : Heap), gT h q = 0 → mR D cs A (nH h q 1 N') H0 H1 locs → W p l e R s m args below meth c H1 locs (cells + 1) (slots + N') Q (F0 m (pc + 2) ls (va_rf (some q) :: rest))) : W p l e R s m args below meth c H locs cells slots Q (F0 m pc ls (.int n :: rest)) := by
  obtain ⟨⟨L, hL, hP, hD⟩, hS⟩ := hR
  refine va_newa (atype := .int) (ty := .int) (a0 := (N', .inl (fun _ => 0))) hx hb (hW _ harr) rfl hK hP hD hS hA (fun cA => rfl) hn hN (by simp only [componentBytes]; omega) hcells hslots hdg fun q cA H1 hK1 hP1 hD1 hS1 => ?_
  have e1 : cA = cs.1 := by
    have a1 : s.vm.findClass ("[" ++ FieldType.int.toString) = some cA := (hK1.2 5 (cA, .int) rfl).2
    have a2 : s.vm.findClass ("[" ++ FieldType.int.toString) = some cs.1 := (hK.2 0 (cs.1, .int) rfl).2
    exact Option.some.inj (a1.symm.trans a2)
  subst e1
  obtain ⟨h1, h2⟩ := mP.new (t := 1) (n := N') hL (by omega) (by rw [toE_1 (gT_nH h q 1 N')]; simp [gN, gA, nH, va_up]) hP1 hD1
  exact kk q H1 h2 ⟨h1, hS1⟩
theorem mx_arr_z (hx : p.tables.exec = Jvm.exec) (hb : c.code = cc) (hW : ∀ w ∈ WA, w.before args s = true) (hK : va_K D vcl (mtys cs) s) (hR : mR D cs A h H0 H locs) (hA : ∀ q, H0.size ≤ q → A q) (harr : Cond.arrayClass .boolean ∈ WA) {n : Int32} {N' : Nat} (hn : ¬ n < 0) (hN : n.toNatClampNeg = N') (hbytes : N' ≤ 100000) (hcells : cells + 1 ≤ R.cells) (hslots : slots + N' ≤ R.slots) (hdg : decode cc pc = .ok (.newarray .boolean, 2))
    (kk : ∀ (q : Nat) (H1 : Heap), gT h q = 0 → mR D cs A (nH h q 2 N') H0 H1 locs → W p l e R s m args below meth c H1 locs (cells + 1) (slots + N') Q (F0 m (pc + 2) ls (va_rf (some q) :: rest))) : W p l e R s m args below meth c H locs cells slots Q (F0 m pc ls (.int n :: rest)) := by
  obtain ⟨⟨L, hL, hP, hD⟩, hS⟩ := hR
  refine va_newa (atype := .boolean) (ty := .boolean) (a0 := (N', .inl (fun _ => 0))) hx hb (hW _ harr) rfl hK hP hD hS hA (fun cA => rfl) hn hN (by simp only [componentBytes]; omega) hcells hslots hdg fun q cA H1 hK1 hP1 hD1 hS1 => ?_
  have e1 : cA = cs.2.1 := by
    have a1 : s.vm.findClass ("[" ++ FieldType.boolean.toString) = some cA := (hK1.2 5 (cA, .boolean) rfl).2
    have a2 : s.vm.findClass ("[" ++ FieldType.boolean.toString) = some cs.2.1 := (hK.2 1 (cs.2.1, .boolean) rfl).2
    exact Option.some.inj (a1.symm.trans a2)
  subst e1
  obtain ⟨h1, h2⟩ := mP.new (t := 2) (n := N') hL (by omega) (by rw [toE_2 (gT_nH h q 2 N')]; simp [gN, gA, nH, va_up]) hP1 hD1
  exact kk q H1 h2 ⟨h1, hS1⟩
theorem mx_arr_l (hx : p.tables.exec = Jvm.exec) (hb : c.code = cc) (hW : ∀ w ∈ WA, w.before args s = true) (hK : va_K D vcl (mtys cs) s) (hR : mR D cs A h H0 H locs) (hA : ∀ q, H0.size ≤ q → A q) (harr : Cond.arrayClass .long ∈ WA) {n : Int32} {N' : Nat} (hn : ¬ n < 0) (hN : n.toNatClampNeg = N') (hbytes : N' ≤ 100000) (hcells : cells + 1 ≤ R.cells) (hslots : slots + N' ≤ R.slots) (hdg : decode cc pc = .ok (.newarray .long, 2))
    (kk : ∀ (q : Nat) (H1 : Heap), gT h q = 0 → mR D cs A (nH h q 3 N') H0 H1 locs → W p l e R s m args below meth c H1 locs (cells + 1) (slots + N') Q (F0 m (pc + 2) ls (va_rf (some q) :: rest))) : W p l e R s m args below meth c H locs cells slots Q (F0 m pc ls (.int n :: rest)) := by
  obtain ⟨⟨L, hL, hP, hD⟩, hS⟩ := hR
  refine va_newa (atype := .long) (ty := .long) (a0 := (N', .inr (.inl (fun _ => 0)))) hx hb (hW _ harr) rfl hK hP hD hS hA (fun cA => rfl) hn hN (by simp only [componentBytes]; omega) hcells hslots hdg fun q cA H1 hK1 hP1 hD1 hS1 => ?_
  have e1 : cA = cs.2.2.1 := by
    have a1 : s.vm.findClass ("[" ++ FieldType.long.toString) = some cA := (hK1.2 5 (cA, .long) rfl).2
    have a2 : s.vm.findClass ("[" ++ FieldType.long.toString) = some cs.2.2.1 := (hK.2 2 (cs.2.2.1, .long) rfl).2
    exact Option.some.inj (a1.symm.trans a2)
  subst e1
  obtain ⟨h1, h2⟩ := mP.new (t := 3) (n := N') hL (by omega) (by rw [toE_3 (gT_nH h q 3 N')]; simp [gN, gL, nH, va_up]) hP1 hD1
  exact kk q H1 h2 ⟨h1, hS1⟩
/-! references in locals -/
theorem mx_aload_n (hx : p.tables.exec = Jvm.exec) (hb : c.code = cc) {k : Fin 4} {i : Nat} (hdg : decode cc pc = .ok (.aload_n k, 1)) (hi : (k : Nat) = i) (hl : ls[i]? = some (.val (va_rf r)))
    (kk : W p l e R s m args below meth c H locs cells slots Q (F0 m (pc + 1) ls (va_rf r :: rest))) : W p l e R s m args below meth c H locs cells slots Q (F0 m pc ls rest) := by
  cases r with
  | none => exact lv_aload_nN hx hb hdg hi hl kk
  | some a => exact lv_aload_n hx hb hdg hi hl kk
theorem mx_aload (hx : p.tables.exec = Jvm.exec) (hb : c.code = cc) {i : Nat} (hdg : decode cc pc = .ok (.aload i, 2)) (hl : ls[i]? = some (.val (va_rf r)))
    (kk : W p l e R s m args below meth c H locs cells slots Q (F0 m (pc + 2) ls (va_rf r :: rest))) : W p l e R s m args below meth c H locs cells slots Q (F0 m pc ls rest) := by
  cases r with
  | none => exact lv_aloadN hx hb hdg hl kk
  | some a => exact lv_aload hx hb hdg hl kk
theorem mx_rf_cat (r : Option Nat) : (va_rf r).category = 1 := by cases r <;> rfl
theorem mx_astore_n (hx : p.tables.exec = Jvm.exec) (hb : c.code = cc) {k : Fin 4} {i nL : Nat} {lv lv' : List (Nat × Value)} (hdg : decode cc pc = .ok (.astore_n k, 1)) (hi : (k : Nat) = i) (hl : lv_has ls nL lv) (hn : i < nL) (he : (i, va_rf r) :: lv.filter (fun q => !(q.1 == i) && !(q.1 + 1 == i && q.2.category == 2)) = lv')
    (kk : ∀ ls' : Array Slot, lv_has ls' nL lv' → W p l e R s m args below meth c H locs cells slots Q (F0 m (pc + 1) ls' rest)) : W p l e R s m args below meth c H locs cells slots Q (F0 m pc ls (va_rf r :: rest)) := by
  cases r with
  | none => exact lv_astore_nN hx hb hdg hi hl hn he kk
  | some a => exact lv_astore_n hx hb hdg hi hl hn he kk
theorem mx_astore (hx : p.tables.exec = Jvm.exec) (hb : c.code = cc) {i nL : Nat} {lv lv' : List (Nat × Value)} (hdg : decode cc pc = .ok (.astore i, 2)) (hl : lv_has ls nL lv) (hn : i < nL) (he : (i, va_rf r) :: lv.filter (fun q => !(q.1 == i) && !(q.1 + 1 == i && q.2.category == 2)) = lv')
    (kk : ∀ ls' : Array Slot, lv_has ls' nL lv' → W p l e R s m args below meth c H locs cells slots Q (F0 m (pc + 2) ls' rest)) : W p l e R s m args below meth c H locs cells slots Q (F0 m pc ls (va_rf r :: rest)) := by
  cases r with
  | none => exact lv_astoreN hx hb hdg hl hn he kk
  | some a => exact lv_astore hx hb hdg hl hn he kk
theorem mx_ifnull (hx : p.tables.exec = Jvm.exec) (hb : c.code = cc) {off : Int} {tgt : Nat} (hdg : decode cc pc = .ok (.ifnull off, 3)) (ht : (pc : Int) + off = (tgt : Int)) (kt : r = none → W p l e R s m args below meth c H locs cells slots Q (F0 m tgt ls rest)) (kf : ¬ r = none → W p l e R s m args below meth c H locs cells slots Q (F0 m (pc + 3) ls rest)) : W p l e R s m args below meth c H locs cells slots Q (F0 m pc ls (va_rf r :: rest)) := by
  cases r with
  | none => exact lv_ifnullN hx hb hdg ht (kt rfl)
  | some a => exact lv_ifnull hx hb hdg (kf (fun h => by cases h))
theorem mx_ifnonnull (hx : p.tables.exec = Jvm.exec) (hb : c.code = cc) {off : Int} {tgt : Nat} (hdg : decode cc pc = .ok (.ifnonnull off, 3)) (ht : (pc : Int) + off = (tgt : Int)) (kt : ¬ r = none → W p l e R s m args below meth c H locs cells slots Q (F0 m tgt ls rest)) (kf : r = none → W p l e R s m args below meth c H locs cells slots Q (F0 m (pc + 3) ls rest)) : W p l e R s m args below meth c H locs cells slots Q (F0 m pc ls (va_rf r :: rest)) := by
  cases r with
  | none => exact lv_ifnonnullN hx hb hdg (kf rfl)
  | some a => exact lv_ifnonnull hx hb hdg ht (kt (fun h => by cases h))
theorem mx_null (hx : p.tables.exec = Jvm.exec) (hb : c.code = cc) (hdg : decode cc pc = .ok (.aconst_null, 1)) (kk : W p l e R s m args below meth c H locs cells slots Q (F0 m (pc + 1) ls (va_rf none :: rest))) : W p l e R s m args below meth c H locs cells slots Q (F0 m pc ls rest) := lv_null hx hb hdg kk
/-- a cast of null, or of an object of just that class -/
theorem mx_cast (hx : p.tables.exec = Jvm.exec) (hb : c.code = cc) (hW : ∀ w ∈ WA, w.before args s = true) {own C : String} {T : u_T} {N ci index : Nat} (hown : s.vm.findClass own = some m.cls) (hK : va_K D vcl (mtys cs) s) (hR : mR D cs A h H0 H locs) (hc : vcl[ci]? = some (C, T, N)) (hlink : Cond.classLink own index C ∈ WA) (hr : ∀ a, r = some a → gT h a = 16 + ci) (hdg : decode cc pc = .ok (.checkcast index, 3))
    (kk : W p l e R s m args below meth c H locs cells slots Q (F0 m (pc + 3) ls (va_rf r :: rest))) : W p l e R s m args below meth c H locs cells slots Q (F0 m pc ls (va_rf r :: rest)) := by
  cases r with
  | none => exact lv_castN hx hb hdg kk
  | some a =>
    have ht := hr a rfl
    obtain ⟨⟨L, hL, hP, hD⟩, hS⟩ := hR
    obtain ⟨q0, hq⟩ := va_pl_get (X := []) (f := toE cs h) ((hL a).mpr (by rw [ht]; omega))
    rw [toE_o ht] at hq
    exact va_castS hx hb hown (hW _ hlink) (hK.1 ci _ hc).2 (va_recv hK hP hc hq) hdg kk
end MXA
end
section
/-! CONTRACTS OVER PURE HEAPS. Z: a bag of addresses of the JVM's own (Z 0: ArrayList's empty array, Z 1: the class object of Object[]) -/
def fA (h : HS) (sz : Nat) : Nat → Prop := fun q => gT h q ≠ 0 ∨ sz ≤ q
def castP : List (String × String) := [("NetJoins$Bus", "java/lang/Object"), ("NetJoins$Port", "java/lang/Object"), ("NetJoins$Sheet", "java/lang/Object"), ("NetJoins$Spot", "java/lang/Object"), ("NetJoins$Wire", "java/lang/Object"), ("java/lang/IndexOutOfBoundsException", "java/lang/IndexOutOfBoundsException"), ("java/lang/IllegalStateException", "java/lang/IllegalStateException"), ("java/lang/IllegalArgumentException", "java/lang/IllegalArgumentException")]
def ncP : List (String × String) := [("java/lang/IllegalStateException", "java/lang/IndexOutOfBoundsException"), ("java/lang/IllegalArgumentException", "java/lang/IndexOutOfBoundsException"), ("java/lang/IllegalArgumentException", "java/lang/IllegalStateException")]
def declP : List MethodName := [⟨"java/lang/RuntimeException", "<init>", "(Ljava/lang/String;)V"⟩, ⟨"java/lang/Exception", "<init>", "(Ljava/lang/String;)V"⟩, ⟨"java/lang/Throwable", "<init>", "(Ljava/lang/String;)V"⟩]
def strP : List (Nat × String) := [(282, "no such sheet"), (286, "the sheet is not drawn"), (299, "no place"), (112, "both ends of the wire are the same place"), (301, "no name"), (291, "no such label on the sheet"), (289, "the sheet has no parent"), (293, "no such pin"), (244, "no such copy"), (208, "no rank"), (252, "no such net"), (219, "no such wire")]
def mAOA (U : State) : Prop := (Cond.arrayOver (.array .int)).before #[] U = true
/-- what the tables say, whatever the heap -/
def mK (D : va_G) (cs : CS) (Z : Nat → Nat) (U : State) : Prop := va_K D vcl (mtys cs) U ∧ va_AO "java/lang/Object" U ∧ va_Mi "[Ljava/lang/Object;" (Z 1) U ∧ va_Dc U ∧ mAOA U ∧ (∀ q ∈ castP, va_Nw (.castable q.1 q.2) U) ∧ (∀ q ∈ ncP, va_Nc q.1 q.2 U) ∧ (∀ q ∈ declP, va_Nw (.declares q) U) ∧ ∀ q ∈ strP, vk_R "NetJoins" q.1 q.2 (Z q.1) U
/-- a static field's place: not of the world A -/
def mLs (C n d : String) (A : Nat → Prop) (U : State) (H : Heap) : Prop := ∃ (c : ClassId) (k : Class) (i : Nat) (f : Field) (a : Nat) (cell : Cell), U.vm.findClass C = some c ∧ U.fieldFound? C n d = some (c, k, i, f) ∧ (f.isStatic = true ∧ k.statics = some a ∧ k.staticTypes[f.slot]? = some f.type) ∧ H[a]? = some cell ∧ (cell.vm.isStatics = true ∧ cell.cls = c ∧ f.slot < cell.slots.size) ∧ ¬ A a
theorem mLs.moved {C n d : String} {A : Nat → Prop} {u U : State} {H : Heap} (hvm : u.vm.Alike U.vm) (h : mLs C n d A u H) : mLs C n d A U H := by
  obtain ⟨c, k, i, f, a, cell, h1, h2, h3, h4⟩ := h
  obtain ⟨k', hi', he⟩ := State.fieldFound?_setVm hvm h2
  exact ⟨c, k', i, f, a, cell, by rw [hvm.findClass]; exact h1, hi', by rw [he]; exact h3, h4⟩
theorem mLs.kept {C n d : String} {A : Nat → Prop} {U : State} {H H1 : Heap} (h : mLs C n d A U H) (hq : ∀ a : Nat, a < H.size → ¬ A a → H1[a]? = H[a]?) : mLs C n d A U H1 := by
  obtain ⟨c, k, i, f, a, cell, h1, h2, h3, h4, h5, h6⟩ := h
  exact ⟨c, k, i, f, a, cell, h1, h2, h3, by rw [hq a (Array.getElem?_eq_some_iff.mp h4).1 h6]; exact h4, h5, h6⟩
theorem mLs.narrow {C n d : String} {A B : Nat → Prop} {U : State} {H : Heap} (h : mLs C n d A U H) (hAB : ∀ q, B q → A q) : mLs C n d B U H := by
  obtain ⟨c, k, i, f, a, cell, h1, h2, h3, h4, h5, h6⟩ := h
  exact ⟨c, k, i, f, a, cell, h1, h2, h3, h4, h5, fun z => h6 (hAB a z)⟩
theorem mLs.word {C n d : String} {A : Nat → Prop} {s : State} {args : Array Value} (h : mLs C n d A s s.heap) : (Cond.laysStatic C n d).before args s = true := by
  obtain ⟨c, k, i, f, a, cell, h1, h2, ⟨h3, h4, h5⟩, h6, ⟨h7, h8, h9⟩, -⟩ := h
  simp [Cond.before, Cond.holds, Cond.value, h1, h2, h3, h4, h5, h6, h7, h8, h9]
/-- two statics of Throwable, of which a throw reads -/
def mTh (A : Nat → Prop) (U : State) (H : Heap) : Prop := (va_Zq "java/lang/Throwable" "UNASSIGNED_STACK" "[Ljava/lang/StackTraceElement;" A U H ∧ mLs "java/lang/Throwable" "UNASSIGNED_STACK" "[Ljava/lang/StackTraceElement;" A U H) ∧ va_Zq "java/lang/Throwable" "SUPPRESSED_SENTINEL" "Ljava/util/List;" A U H ∧ mLs "java/lang/Throwable" "SUPPRESSED_SENTINEL" "Ljava/util/List;" A U H
def mZ (Z : Nat → Nat) (A : Nat → Prop) (U : State) (H : Heap) : Prop := (va_Z "java/util/ArrayList" "DEFAULTCAPACITY_EMPTY_ELEMENTDATA" "[Ljava/lang/Object;" (.ref (Z 0)) A U H ∧ va_T (.object "java/lang/Object") (Z 0) 0 (fun _ => .null) A U H) ∧ mTh A U H
theorem mAOA.moved {u U : State} (hvm : u.vm.Alike U.vm) (h : mAOA u) : mAOA U := by
  unfold mAOA Cond.before Cond.holds at h ⊢
  simp only [Cond.value, beq_iff_eq] at h ⊢
  rw [hvm.findClass, hvm.findClass]
  cases hc : u.vm.findClass (FieldType.array FieldType.int).toString with
  | none => simp [hc] at h
  | some comp =>
    simp only [hc, Option.bind_some, Option.bind_eq_some_iff, Option.map_eq_some_iff] at h ⊢
    obtain ⟨c, hi, k, hk, hb⟩ := h
    obtain ⟨k', hk', he⟩ := hvm.2.2 _ _ hk
    have e1 := va_idx_bare U.vm comp
    have e2 := va_idx_bare u.vm comp
    have e3 : U.vm.bare = u.vm.bare := by first | exact hvm.bare_eq | exact hvm.bare_eq.symm
    rw [e3] at e1
    have hi2 := e1.symm.trans (e2.trans hi)
    exact ⟨c, hi2, k', hk', by rw [he]; exact hb⟩
theorem mK.warm {D : va_G} {cs : CS} {Z : Nat → Nat} {u U : State} (hW : u.WarmedH U.vm) (h : mK D cs Z u) : mK D cs Z U := by
  obtain ⟨h1, h2, h3, h4, h5, h6, h7, h8, h9⟩ := h
  exact ⟨h1.moved hW.alike, h2.moved hW.alike, h3.moved hW.alike, h4.moved hW.alike, h5.moved hW.alike, fun q hq => (h6 q hq).warmC hW, fun q hq => (h7 q hq).moved hW.alike, fun q hq => (h8 q hq).warmD hW, fun q hq => (h9 q hq).warm hW⟩
theorem mK.same {D : va_G} {cs : CS} {Z : Nat → Nat} {u U : State} (hv : u.vm = U.vm) (h : mK D cs Z u) : mK D cs Z U := by
  obtain ⟨h1, h2, h3, h4, h5, h6, h7, h8, h9⟩ := h
  have hvm : u.vm.Alike U.vm := by rw [hv]; exact Vm.Alike.refl _
  exact ⟨h1.moved hvm, h2.moved hvm, h3.moved hvm, h4.moved hvm, h5.moved hvm, fun q hq => va_Nw.same rfl hv (h6 q hq), fun q hq => (h7 q hq).moved hvm, fun q hq => va_Nw.same rfl hv (h8 q hq), fun q hq => vk_R.same hv.symm (h9 q hq)⟩
theorem mTh.moved {A : Nat → Prop} {u U : State} {H : Heap} (hvm : u.vm.Alike U.vm) (h : mTh A u H) : mTh A U H := ⟨⟨h.1.1.moved hvm, h.1.2.moved hvm⟩, h.2.1.moved hvm, h.2.2.moved hvm⟩
theorem mTh.kept {A : Nat → Prop} {U : State} {H H1 : Heap} (h : mTh A U H) (hq : ∀ a : Nat, a < H.size → ¬ A a → H1[a]? = H[a]?) : mTh A U H1 := ⟨⟨h.1.1.kept hq, h.1.2.kept hq⟩, h.2.1.kept hq, h.2.2.kept hq⟩
theorem mTh.narrow {A B : Nat → Prop} {U : State} {H : Heap} (h : mTh A U H) (hAB : ∀ q, B q → A q) : mTh B U H := ⟨⟨h.1.1.narrow hAB, h.1.2.narrow hAB⟩, h.2.1.narrow hAB, h.2.2.narrow hAB⟩
theorem mZ.moved {Z : Nat → Nat} {A : Nat → Prop} {u U : State} {H : Heap} (hvm : u.vm.Alike U.vm) (h : mZ Z A u H) : mZ Z A U H := ⟨⟨h.1.1.moved hvm, h.1.2.moved hvm⟩, h.2.moved hvm⟩
theorem mZ.kept {Z : Nat → Nat} {A : Nat → Prop} {U : State} {H H1 : Heap} (h : mZ Z A U H) (hq : ∀ a : Nat, a < H.size → ¬ A a → H1[a]? = H[a]?) : mZ Z A U H1 := ⟨⟨h.1.1.kept hq, h.1.2.kept hq⟩, h.2.kept hq⟩
theorem mZ.narrow {Z : Nat → Nat} {A B : Nat → Prop} {U : State} {H : Heap} (h : mZ Z A U H) (hAB : ∀ q, B q → A q) : mZ Z B U H := ⟨⟨h.1.1.narrow hAB, h.1.2.narrow hAB⟩, h.2.narrow hAB⟩
def mPc (D : va_G) (cs : CS) (Z : Nat → Nat) (h : HS) (sz : Nat) (As : List Value) : Array Value → State → Prop := va_Pc As (fun U => U.heap.size = sz ∧ mP D cs (fun _ => True) h U.heap ∧ mK D cs Z U ∧ mZ Z (fA h sz) U U.heap)
def mB (D : va_G) (cs : CS) (h : HS) (sz : Nat) : HS → State → Prop := fun u t => mP D cs (fA h sz) u t.heap
theorem mP.weaken {D : va_G} {cs : CS} {A B : Nat → Prop} {h : HS} {H : Heap} (hP : mP D cs A h H) (hAB : ∀ q, gT h q ≠ 0 → A q → B q) : mP D cs B h H := by
  obtain ⟨L, hL, hP, hD⟩ := hP
  refine ⟨L, hL, hP, hD.weaken fun k q hk hq => hAB q.1 ?_ hq⟩
  rw [List.nil_append] at hk
  obtain ⟨b, hb, rfl⟩ := List.mem_map.mp (List.mem_of_getElem? hk)
  exact (hL b).mp hb
theorem mP.in {D : va_G} {cs : CS} {A : Nat → Prop} {h : HS} {H : Heap} (hP : mP D cs A h H) {q : Nat} (ht : gT h q ≠ 0) : A q := (hP.at ht).2
theorem fA_in {D : va_G} {cs : CS} {A : Nat → Prop} {h : HS} {H0 H : Heap} {locs : List Loc} (hR : mR D cs A h H0 H locs) (hA : ∀ q, H0.size ≤ q → A q) : ∀ q, fA h H.size q → A q := by
  intro q hq
  rcases hq with hq | hq
  · exact hR.1.in hq
  · exact hA q (Nat.le_trans hR.2.1 hq)
section MXB
variable {p : Program} {l : Launch} {e : Env} {R : Room} {s : State} {m : MethodId} {args : Array Value} {below : List Frame} {meth : Method} {c : Code} {H : Heap} {locs : List Loc} {cells slots : Nat} {Q : State → Prop}
variable {cc : ByteArray} {pc : Nat} {ls : Array Slot} {rest st0 : List Value} {D : va_G} {cs : CS} {Z : Nat → Nat} {A : Nat → Prop} {h : HS} {r : Option Nat} {a : Nat}
theorem mx_blind {sz : Nat} {As : List Value} : FrameBlind (mPc D cs Z h sz As) := by
  intro v U g mk q
  obtain ⟨q0, q1, q2, q3, q4⟩ := q
  exact ⟨q0, q1, q2, q3.same rfl, q4.moved (Vm.Alike.refl U.vm)⟩
theorem mx_pre {As : List Value} (hK : mK D cs Z s) (hZ : mZ Z A s s.heap) (hA : ∀ q, s.heap.size ≤ q → A q) (hR : mR D cs A h s.heap H locs) : ∀ U : State, U.heap = H → s.WarmedH U.vm → mPc D cs Z h H.size As As.toArray U := by
  intro U hU hW
  refine ⟨rfl, by rw [hU], by rw [hU]; exact hR.1.weaken (fun _ _ _ => trivial), hK.warm hW, ?_⟩
  rw [hU]
  exact ((hZ.kept hR.2.2.1).narrow (fA_in hR hA)).moved hW.alike
theorem mx_preS {As : List Value} (hK : mK D cs Z s) (hZ : mZ Z A s s.heap) (hA : ∀ q, s.heap.size ≤ q → A q) (hR : mR D cs A h s.heap H locs) : PreS s H (mPc D cs Z h H.size As) As := ⟨mx_blind, mx_pre hK hZ hA hR⟩
theorem mx_preV {As : List Value} {C : String} {T : u_T} {N ci b : Nat} (hK : mK D cs Z s) (hZ : mZ Z A s s.heap) (hA : ∀ q, s.heap.size ≤ q → A q) (hR : mR D cs A h s.heap H locs) (hc : vcl[ci]? = some (C, T, N)) (ht : gT h b = 16 + ci) : PreV s H C b (mPc D cs Z h H.size (.ref b :: As)) As := by
  refine ⟨mx_blind, ?_, mx_pre hK hZ hA hR⟩
  obtain ⟨⟨L, hL, hP, hD⟩, hS⟩ := hR
  obtain ⟨q0, hq⟩ := va_pl_get (X := []) (f := toE cs h) ((hL b).mpr (by rw [ht]; omega))
  rw [toE_o ht] at hq
  exact va_recv hK.1 hP hc hq
theorem mx_behind {H1 : Heap} {locs1 : List Loc} {u : HS} {t : State} (hR : mR D cs A h s.heap H locs) (hA : ∀ q, s.heap.size ≤ q → A q) (ht : t.heap = H1) (hB : mB D cs h H.size u t) (hS : va_S A s.heap H1 locs1) : mR D cs A u s.heap H1 locs1 := by
  refine ⟨?_, hS⟩
  have hB' : mP D cs (fA h H.size) u t.heap := hB
  rw [ht] at hB'
  exact hB'.weaken (fun q _ hq => fA_in hR hA q hq)
variable {ar : Array Value} {mc ms : Nat}
theorem mx_calli {post : Int32 → HS → Prop} (hr : va_Run p l e R s m args below meth c H locs cells slots mc ms (F0 m pc ls st0) rest (va_Qi post (mB D cs h H.size) (fA h H.size) ar) (fA h H.size)) (hR : mR D cs A h s.heap H locs) (hA : ∀ q, s.heap.size ≤ q → A q)
    (kk : ∀ (v : Int32) (u : HS) (H1 : Heap) (locs1 : List Loc), post v u → mR D cs A u s.heap H1 locs1 → W p l e R s m args below meth c H1 locs1 (cells + mc) (slots + ms) Q (F0 m (pc + 3) ls (.int v :: rest))) : W p l e R s m args below meth c H locs cells slots Q (F0 m pc ls st0) :=
  va_calli hr hR.2 (fun q _ hq => fA_in hR hA q hq) (fA_in hR hA) fun v u t H1 locs1 ht hvm hw hB hz hk hS => kk v u H1 locs1 hw (mx_behind hR hA ht hB hS)
theorem mx_calll {post : Int64 → HS → Prop} (hr : va_Run p l e R s m args below meth c H locs cells slots mc ms (F0 m pc ls st0) rest (va_Ql post (mB D cs h H.size) (fA h H.size) ar) (fA h H.size)) (hR : mR D cs A h s.heap H locs) (hA : ∀ q, s.heap.size ≤ q → A q)
    (kk : ∀ (v : Int64) (u : HS) (H1 : Heap) (locs1 : List Loc), post v u → mR D cs A u s.heap H1 locs1 → W p l e R s m args below meth c H1 locs1 (cells + mc) (slots + ms) Q (F0 m (pc + 3) ls (.long v :: rest))) : W p l e R s m args below meth c H locs cells slots Q (F0 m pc ls st0) :=
  va_calll hr hR.2 (fun q _ hq => fA_in hR hA q hq) (fA_in hR hA) fun v u t H1 locs1 ht hvm hw hB hz hk hS => kk v u H1 locs1 hw (mx_behind hR hA ht hB hS)
theorem mx_callv {post : HS → Prop} (hr : va_Run p l e R s m args below meth c H locs cells slots mc ms (F0 m pc ls st0) rest (va_Qv post (mB D cs h H.size) (fA h H.size) ar) (fA h H.size)) (hR : mR D cs A h s.heap H locs) (hA : ∀ q, s.heap.size ≤ q → A q)
    (kk : ∀ (u : HS) (H1 : Heap) (locs1 : List Loc), post u → mR D cs A u s.heap H1 locs1 → W p l e R s m args below meth c H1 locs1 (cells + mc) (slots + ms) Q (F0 m (pc + 3) ls rest)) : W p l e R s m args below meth c H locs cells slots Q (F0 m pc ls st0) :=
  va_callv hr hR.2 (fun q _ hq => fA_in hR hA q hq) (fA_in hR hA) fun u t H1 locs1 ht hvm hw hB hz hk hS => kk u H1 locs1 hw (mx_behind hR hA ht hB hS)
theorem mx_callr {post : Option Nat → HS → Prop} (hr : va_Run p l e R s m args below meth c H locs cells slots mc ms (F0 m pc ls st0) rest (va_Qq post (mB D cs h H.size) (fA h H.size) ar) (fA h H.size)) (hR : mR D cs A h s.heap H locs) (hA : ∀ q, s.heap.size ≤ q → A q)
    (kk : ∀ (v : Option Nat) (u : HS) (H1 : Heap) (locs1 : List Loc), post v u → mR D cs A u s.heap H1 locs1 → W p l e R s m args below meth c H1 locs1 (cells + mc) (slots + ms) Q (F0 m (pc + 3) ls (va_rf v :: rest))) : W p l e R s m args below meth c H locs cells slots Q (F0 m pc ls st0) :=
  va_callq hr hR.2 (fun q _ hq => fA_in hR hA q hq) (fA_in hR hA) fun v u t H1 locs1 ht hvm hw hB hz hk hS => kk v u H1 locs1 hw (mx_behind hR hA ht hB hS)
/-! ends -/
variable {h0 : HS}
theorem mx_iret {post : Int32 → HS → Prop} {v : Int32} (hx : p.tables.exec = Jvm.exec) (hb : c.code = cc) (hr : meth.sig.returnType = some .int) (hlocks : meth.locks = false) (hR : mR D cs (fA h0 s.heap.size) h s.heap H locs) (hw : post v h) (hdg : decode cc pc = .ok (.ireturn, 1)) : W p l e R s m args below meth c H locs cells slots (MQ below (va_Qi post (mB D cs h0 s.heap.size) (fA h0 s.heap.size)) args s cells slots (fA h0 s.heap.size)) (F0 m pc ls [.int v]) :=
  W.iret (v := v) hx hb hr (fun t ht hW => ⟨⟨v, h, rfl, hw, by show mP _ _ _ _ _; rw [ht]; exact hR.1⟩, hR.2.F ht⟩) hR.2.2.2 hdg hlocks
theorem mx_zret {post : Int32 → HS → Prop} {v : Int32} (hx : p.tables.exec = Jvm.exec) (hb : c.code = cc) (hr : meth.sig.returnType = some .boolean) (hlocks : meth.locks = false) (hR : mR D cs (fA h0 s.heap.size) h s.heap H locs) (hz : v = 0 ∨ v = 1) (hw : post v h) (hdg : decode cc pc = .ok (.ireturn, 1)) : W p l e R s m args below meth c H locs cells slots (MQ below (va_Qi post (mB D cs h0 s.heap.size) (fA h0 s.heap.size)) args s cells slots (fA h0 s.heap.size)) (F0 m pc ls [.int v]) :=
  W.zret (v := v) (ty := .boolean) hx hb hr (mx_z_n hz).1 (fun t ht hW => ⟨⟨v, h, rfl, hw, by show mP _ _ _ _ _; rw [ht]; exact hR.1⟩, hR.2.F ht⟩) hR.2.2.2 hdg hlocks
theorem mx_vret {post : HS → Prop} (hx : p.tables.exec = Jvm.exec) (hb : c.code = cc) (hr : meth.sig.returnType = none) (hlocks : meth.locks = false) (hR : mR D cs (fA h0 s.heap.size) h s.heap H locs) (hw : post h) (hdg : decode cc pc = .ok (.return_, 1)) : W p l e R s m args below meth c H locs cells slots (MQ below (va_Qv post (mB D cs h0 s.heap.size) (fA h0 s.heap.size)) args s cells slots (fA h0 s.heap.size)) (F0 m pc ls []) :=
  W.vret hx hb hr (fun t ht hW => ⟨⟨h, rfl, hw, by show mP _ _ _ _ _; rw [ht]; exact hR.1⟩, hR.2.F ht⟩) hR.2.2.2 hdg hlocks
theorem mx_aret {post : Option Nat → HS → Prop} {v : Option Nat} {rt : FieldType} (hx : p.tables.exec = Jvm.exec) (hb : c.code = cc) (hr : meth.sig.returnType = some rt) (hrt : (∃ n, rt = .object n) ∨ ∃ t, rt = .array t) (hlocks : meth.locks = false) (hR : mR D cs (fA h0 s.heap.size) h s.heap H locs) (hw : post v h) (hdg : decode cc pc = .ok (.areturn, 1)) : W p l e R s m args below meth c H locs cells slots (MQ below (va_Qq post (mB D cs h0 s.heap.size) (fA h0 s.heap.size)) args s cells slots (fA h0 s.heap.size)) (F0 m pc ls [va_rf v]) :=
  W.aret (v := va_rf v) hx hb hr hrt (va_rf_or v) (fun t ht hW => ⟨⟨v, h, rfl, hw, by show mP _ _ _ _ _; rw [ht]; exact hR.1⟩, hR.2.F ht⟩) hR.2.2.2 hdg hlocks
end MXB
/-- what a walk stands on, whatever its place -/
def mC (D : va_G) (cs : CS) (Z : Nat → Nat) (h0 : HS) (y : MethodName) (cc : ByteArray) (maxL : Nat) (ret : Option FieldType) (p : Program) (s : State) (m : MethodId) (args : Array Value) (meth : Method) (c : Code) : Prop :=
  p.tables.exec = Jvm.exec ∧ c.code = cc ∧ meth.sig.returnType = ret ∧ c.maxLocals = maxL ∧ s.vm.findClass y.cls = some m.cls ∧ (∀ w ∈ WA, w.before args s = true) ∧ meth.locks = false ∧ meth.name = y.name ∧ mK D cs Z s ∧ mZ Z (fA h0 s.heap.size) s s.heap
theorem mx_met {l : Launch} {y : MethodName} {cc : ByteArray} {maxL : Nat} {ret : Option FieldType} {rm : Room} {D : va_G} {cs : CS} {Z : Nat → Nat} {h : HS} {sz mc ms : Nat} {As : List Value} (Qf : Nat → Array Value → State → Outcome → State → Prop) (hy : plainName y.cls = true) (hAs : (lg_sl As).length ≤ maxL)
    (body : ∀ (p : Program) (e : Env) (s : State) (m : MethodId) (args : Array Value) (below : List Frame) (meth : Method) (c : Code), mC D cs Z h y cc maxL ret p s m args meth c → mR D cs (fA h s.heap.size) h s.heap s.heap [] → ∀ ls : Array Slot, lv_has ls maxL (lv_args 0 As) → W p l e rm s m args below meth c s.heap [] 0 0 (MQ below (Qf s.heap.size) args s mc ms (fA h s.heap.size)) (F0 m 0 ls [])) :
    Met l y (Cond.code y cc maxL ret :: WA) rm (mPc D cs Z h sz As) (Qf sz) mc ms (fA h sz) := by
  refine Met.ofW (cc := cc) (maxL := maxL) (ret := ret) hy rfl ?_
  intro p e s m args below meth c s₁ B hml hv
  obtain ⟨rfl, hsz, hP, hK, hZ⟩ := hv
  subst hsz
  have hts := atoms_spec (ws := Cond.code y cc maxL ret :: WA) B.pre
  have hl := lv_entry As (n := maxL) hAs
  rw [lg_entry_eq]
  exact body p e s m As.toArray below meth c ⟨B.exec, B.bytes, B.returns, hml, findClass_of_methodNamed B.named, fun w hw => hts w (List.mem_cons_of_mem _ hw), B.notSynchronized, (name_of_methodNamed B.named B.method).1, hK, hZ⟩ ⟨hP.weaken (fun q hq _ => Or.inl hq), va_S.rf⟩ _ hl
/-! words of a call -/
theorem gi_b {c2 : Cond} (h : c2 ∈ WA) : GoodIn WA (c2 :: WA) := fun w hw => (List.mem_cons.mp hw).elim (fun e => by rw [e]; exact ⟨h, wa_good h⟩) (wa_self w)
def vOK (y : MethodName) (bytes : ByteArray) (maxL : Nat) (ret : Option FieldType) (n : Nat) : Prop := Cond.code y bytes maxL ret ∈ WA ∧ Cond.instanceMethod y ∈ WA ∧ Cond.selects y.cls y y ∈ WA ∧ Cond.initialized y.cls ∈ WA ∧ (y.cls ≠ "java/lang/invoke/MethodHandle" ∧ y.cls ≠ "java/lang/invoke/VarHandle" ∧ (parseMethodDescriptor y.desc).map (fun d => d.parameters.length) = some n)
def sOK (y : MethodName) (bytes : ByteArray) (maxL : Nat) (ret : Option FieldType) (n : Nat) : Prop := Cond.code y bytes maxL ret ∈ WA ∧ Cond.static y ∈ WA ∧ Cond.initialized y.cls ∈ WA ∧ (y.cls ≠ "java/lang/invoke/MethodHandle" ∧ y.cls ≠ "java/lang/invoke/VarHandle" ∧ (parseMethodDescriptor y.desc).map (fun d => d.parameters.length) = some n)
def iOK (y : MethodName) (bytes : ByteArray) (maxL : Nat) (n : Nat) : Prop := Cond.code y bytes maxL none ∈ WA ∧ Cond.instanceMethod y ∈ WA ∧ Cond.initialized y.cls ∈ WA ∧ y.name = "<init>" ∧ (y.cls ≠ "java/lang/invoke/MethodHandle" ∧ y.cls ≠ "java/lang/invoke/VarHandle" ∧ (parseMethodDescriptor y.desc).map (fun d => d.parameters.length) = some n)
section MXD
variable {R : Room} {s : State} {args : Array Value} {own : String} {index : Nat} {y : MethodName} {bytes : ByteArray} {maxL : Nat} {ret : Option FieldType} {rm : Room} {mc ms n : Nat}
theorem mx_cwV (hW : ∀ w ∈ WA, w.before args s = true) (hy : vOK y bytes maxL ret n) (hl : Cond.methodLink own index y ∈ WA) (hrc : rm.cells = mc) (hrs : rm.slots = ms) (hR : rm.frames + 1 ≤ R.frames ∧ 8 + (maxL + 11) + rm.locals ≤ R.locals) : CallW R s args own y.cls index y bytes maxL ret (Cond.code y bytes maxL ret :: WA) rm mc ms n :=
  ⟨callB_of n hW (gi_b hy.1) rfl hrc hrs (hW _ hy.2.2.2.1) (hW _ hl) hy.2.2.2.2 hR, hW _ hy.2.1, hW _ hy.2.2.1⟩
theorem mx_cwS (hW : ∀ w ∈ WA, w.before args s = true) (hy : sOK y bytes maxL ret n) (hl : Cond.methodLink own index y ∈ WA) (hrc : rm.cells = mc) (hrs : rm.slots = ms) (hR : rm.frames + 1 ≤ R.frames ∧ 8 + (maxL + 11) + rm.locals ≤ R.locals) : CallB R s args own index y bytes maxL ret (Cond.code y bytes maxL ret :: WA) rm mc ms n ∧ (Cond.static y).before args s = true :=
  ⟨callB_of n hW (gi_b hy.1) rfl hrc hrs (hW _ hy.2.2.1) (hW _ hl) hy.2.2.2 hR, hW _ hy.2.1⟩
theorem mx_cwI (hW : ∀ w ∈ WA, w.before args s = true) (hy : iOK y bytes maxL n) (hl : Cond.methodLink own index y ∈ WA) (hrc : rm.cells = mc) (hrs : rm.slots = ms) (hR : rm.frames + 1 ≤ R.frames ∧ 8 + (maxL + 11) + rm.locals ≤ R.locals) : CallB R s args own index y bytes maxL none (Cond.code y bytes maxL none :: WA) rm mc ms n ∧ y.name = "<init>" ∧ (Cond.instanceMethod y).before args s = true :=
  ⟨callB_of n hW (gi_b hy.1) rfl hrc hrs (hW _ hy.2.2.1) (hW _ hl) hy.2.2.2.2 hR, hy.2.2.2.1, hW _ hy.2.1⟩
end MXD
end
section
/-! LOOPS as predicates: so many turns at most -/
def lpF {σ : Type} (B : (σ → Prop) → σ → Prop) : Nat → σ → Prop
  | 0 => fun _ => False
  | n + 1 => B (lpF B n)
def lp {σ : Type} (B : (σ → Prop) → σ → Prop) (q : σ) : Prop := ∃ n, lpF B n q
/-- the rule of a loop: an invariant, a measure that falls -/
theorem lp_inv {σ : Type} {B : (σ → Prop) → σ → Prop} (I : σ → Prop) (μ : σ → Nat) (hs : ∀ (q : σ) (K : σ → Prop), I q → (∀ q', I q' → μ q' < μ q → K q') → B K q) : ∀ q, I q → lp B q := by
  have key : ∀ (n : Nat) (q : σ), I q → μ q < n → lpF B n q := by
    intro n
    induction n with
    | zero => intro q _ h; omega
    | succ n ih => exact fun q hq hn => hs q _ hq fun q' h1 h2 => ih q' h1 (by omega)
  exact fun q hq => ⟨μ q + 1, key _ q hq (Nat.lt_succ_self _)⟩
theorem mx_topr {p : Program} {l : Launch} {e : Env} {R : Room} {s : State} {m : MethodId} {args : Array Value} {below : List Frame} {meth : Method} {c : Code} {H : Heap} {locs : List Loc} {cells slots : Nat} {Q : State → Prop} {pc : Nat} {ls : Array Slot} {rest : List Value} {r : Option Nat} (k : ∀ y : Option Nat, y = r → W p l e R s m args below meth c H locs cells slots Q (F0 m pc ls (va_rf y :: rest))) : W p l e R s m args below meth c H locs cells slots Q (F0 m pc ls (va_rf r :: rest)) := k r rfl
theorem nf_NJ (h : HS) (q j : Nat) (hj : j < 18) : defaultValue (t_NJ j) = vp_V (fl (nH h q (16 + 0) 0) q 0) j := by
  match j, hj with
  | 0, _ => simp [t_NJ, vp_V, fl, lk, fv, gI, gJ, gR, nH, va_up, va_rf, defaultValue]
  | 1, _ => simp [t_NJ, vp_V, fl, lk, fv, gI, gJ, gR, nH, va_up, va_rf, defaultValue]
  | 2, _ => simp [t_NJ, vp_V, fl, lk, fv, gI, gJ, gR, nH, va_up, va_rf, defaultValue]
  | 3, _ => simp [t_NJ, vp_V, fl, lk, fv, gI, gJ, gR, nH, va_up, va_rf, defaultValue]
  | 4, _ => simp [t_NJ, vp_V, fl, lk, fv, gI, gJ, gR, nH, va_up, va_rf, defaultValue]
  | 5, _ => simp [t_NJ, vp_V, fl, lk, fv, gI, gJ, gR, nH, va_up, va_rf, defaultValue]
  | 6, _ => simp [t_NJ, vp_V, fl, lk, fv, gI, gJ, gR, nH, va_up, va_rf, defaultValue]
  | 7, _ => simp [t_NJ, vp_V, fl, lk, fv, gI, gJ, gR, nH, va_up, va_rf, defaultValue]
  | 8, _ => simp [t_NJ, vp_V, fl, lk, fv, gI, gJ, gR, nH, va_up, va_rf, defaultValue]
  | 9, _ => simp [t_NJ, vp_V, fl, lk, fv, gI, gJ, gR, nH, va_up, va_rf, defaultValue]
  | 10, _ => simp [t_NJ, vp_V, fl, lk, fv, gI, gJ, gR, nH, va_up, va_rf, defaultValue]
  | 11, _ => simp [t_NJ, vp_V, fl, lk, fv, gI, gJ, gR, nH, va_up, va_rf, defaultValue]
  | 12, _ => simp [t_NJ, vp_V, fl, lk, fv, gI, gJ, gR, nH, va_up, va_rf, defaultValue]
  | 13, _ => simp [t_NJ, vp_V, fl, lk, fv, gI, gJ, gR, nH, va_up, va_rf, defaultValue]
  | 14, _ => simp [t_NJ, vp_V, fl, lk, fv, gI, gJ, gR, nH, va_up, va_rf, defaultValue]
  | 15, _ => simp [t_NJ, vp_V, fl, lk, fv, gI, gJ, gR, nH, va_up, va_rf, defaultValue]
  | 16, _ => simp [t_NJ, vp_V, fl, lk, fv, gI, gJ, gR, nH, va_up, va_rf, defaultValue]
  | 17, _ => simp [t_NJ, vp_V, fl, lk, fv, gI, gJ, gR, nH, va_up, va_rf, defaultValue]
  | j + 18, hj => omega
theorem nf_Bus (h : HS) (q j : Nat) (hj : j < 4) : defaultValue (t_Bus j) = vp_V (fl (nH h q (16 + 1) 0) q 1) j := by
  match j, hj with
  | 0, _ => simp [t_Bus, vp_V, fl, lk, fv, gI, gJ, gR, nH, va_up, va_rf, defaultValue]
  | 1, _ => simp [t_Bus, vp_V, fl, lk, fv, gI, gJ, gR, nH, va_up, va_rf, defaultValue]
  | 2, _ => simp [t_Bus, vp_V, fl, lk, fv, gI, gJ, gR, nH, va_up, va_rf, defaultValue]
  | 3, _ => simp [t_Bus, vp_V, fl, lk, fv, gI, gJ, gR, nH, va_up, va_rf, defaultValue]
  | j + 4, hj => omega
theorem nf_Joins (h : HS) (q j : Nat) (hj : j < 1) : defaultValue (t_Joins j) = vp_V (fl (nH h q (16 + 2) 0) q 2) j := by
  match j, hj with
  | 0, _ => simp [t_Joins, vp_V, fl, lk, fv, gI, gJ, gR, nH, va_up, va_rf, defaultValue]
  | j + 1, hj => omega
theorem nf_Tab (h : HS) (q j : Nat) (hj : j < 7) : defaultValue (t_Tab j) = vp_V (fl (nH h q (16 + 3) 0) q 3) j := by
  match j, hj with
  | 0, _ => simp [t_Tab, vp_V, fl, lk, fv, gI, gJ, gR, nH, va_up, va_rf, defaultValue]
  | 1, _ => simp [t_Tab, vp_V, fl, lk, fv, gI, gJ, gR, nH, va_up, va_rf, defaultValue]
  | 2, _ => simp [t_Tab, vp_V, fl, lk, fv, gI, gJ, gR, nH, va_up, va_rf, defaultValue]
  | 3, _ => simp [t_Tab, vp_V, fl, lk, fv, gI, gJ, gR, nH, va_up, va_rf, defaultValue]
  | 4, _ => simp [t_Tab, vp_V, fl, lk, fv, gI, gJ, gR, nH, va_up, va_rf, defaultValue]
  | 5, _ => simp [t_Tab, vp_V, fl, lk, fv, gI, gJ, gR, nH, va_up, va_rf, defaultValue]
  | 6, _ => simp [t_Tab, vp_V, fl, lk, fv, gI, gJ, gR, nH, va_up, va_rf, defaultValue]
  | j + 7, hj => omega
theorem nf_Port (h : HS) (q j : Nat) (hj : j < 5) : defaultValue (t_Port j) = vp_V (fl (nH h q (16 + 4) 0) q 4) j := by
  match j, hj with
  | 0, _ => simp [t_Port, vp_V, fl, lk, fv, gI, gJ, gR, nH, va_up, va_rf, defaultValue]
  | 1, _ => simp [t_Port, vp_V, fl, lk, fv, gI, gJ, gR, nH, va_up, va_rf, defaultValue]
  | 2, _ => simp [t_Port, vp_V, fl, lk, fv, gI, gJ, gR, nH, va_up, va_rf, defaultValue]
  | 3, _ => simp [t_Port, vp_V, fl, lk, fv, gI, gJ, gR, nH, va_up, va_rf, defaultValue]
  | 4, _ => simp [t_Port, vp_V, fl, lk, fv, gI, gJ, gR, nH, va_up, va_rf, defaultValue]
  | j + 5, hj => omega
theorem nf_Sheet (h : HS) (q j : Nat) (hj : j < 5) : defaultValue (t_Sheet j) = vp_V (fl (nH h q (16 + 5) 0) q 5) j := by
  match j, hj with
  | 0, _ => simp [t_Sheet, vp_V, fl, lk, fv, gI, gJ, gR, nH, va_up, va_rf, defaultValue]
  | 1, _ => simp [t_Sheet, vp_V, fl, lk, fv, gI, gJ, gR, nH, va_up, va_rf, defaultValue]
  | 2, _ => simp [t_Sheet, vp_V, fl, lk, fv, gI, gJ, gR, nH, va_up, va_rf, defaultValue]
  | 3, _ => simp [t_Sheet, vp_V, fl, lk, fv, gI, gJ, gR, nH, va_up, va_rf, defaultValue]
  | 4, _ => simp [t_Sheet, vp_V, fl, lk, fv, gI, gJ, gR, nH, va_up, va_rf, defaultValue]
  | j + 5, hj => omega
theorem nf_Spot (h : HS) (q j : Nat) (hj : j < 6) : defaultValue (t_Spot j) = vp_V (fl (nH h q (16 + 6) 0) q 6) j := by
  match j, hj with
  | 0, _ => simp [t_Spot, vp_V, fl, lk, fv, gI, gJ, gR, nH, va_up, va_rf, defaultValue]
  | 1, _ => simp [t_Spot, vp_V, fl, lk, fv, gI, gJ, gR, nH, va_up, va_rf, defaultValue]
  | 2, _ => simp [t_Spot, vp_V, fl, lk, fv, gI, gJ, gR, nH, va_up, va_rf, defaultValue]
  | 3, _ => simp [t_Spot, vp_V, fl, lk, fv, gI, gJ, gR, nH, va_up, va_rf, defaultValue]
  | 4, _ => simp [t_Spot, vp_V, fl, lk, fv, gI, gJ, gR, nH, va_up, va_rf, defaultValue]
  | 5, _ => simp [t_Spot, vp_V, fl, lk, fv, gI, gJ, gR, nH, va_up, va_rf, defaultValue]
  | j + 6, hj => omega
theorem nf_Wire (h : HS) (q j : Nat) (hj : j < 7) : defaultValue (t_Wire j) = vp_V (fl (nH h q (16 + 7) 0) q 7) j := by
  match j, hj with
  | 0, _ => simp [t_Wire, vp_V, fl, lk, fv, gI, gJ, gR, nH, va_up, va_rf, defaultValue]
  | 1, _ => simp [t_Wire, vp_V, fl, lk, fv, gI, gJ, gR, nH, va_up, va_rf, defaultValue]
  | 2, _ => simp [t_Wire, vp_V, fl, lk, fv, gI, gJ, gR, nH, va_up, va_rf, defaultValue]
  | 3, _ => simp [t_Wire, vp_V, fl, lk, fv, gI, gJ, gR, nH, va_up, va_rf, defaultValue]
  | 4, _ => simp [t_Wire, vp_V, fl, lk, fv, gI, gJ, gR, nH, va_up, va_rf, defaultValue]
  | 5, _ => simp [t_Wire, vp_V, fl, lk, fv, gI, gJ, gR, nH, va_up, va_rf, defaultValue]
  | 6, _ => simp [t_Wire, vp_V, fl, lk, fv, gI, gJ, gR, nH, va_up, va_rf, defaultValue]
  | j + 7, hj => omega
theorem nf_Mod (h : HS) (q j : Nat) (hj : j < 33) : defaultValue (t_Mod j) = vp_V (fl (nH h q (16 + 8) 0) q 8) j := by
  match j, hj with
  | 0, _ => simp [t_Mod, vp_V, fl, lk, fv, gI, gJ, gR, nH, va_up, va_rf, defaultValue]
  | 1, _ => simp [t_Mod, vp_V, fl, lk, fv, gI, gJ, gR, nH, va_up, va_rf, defaultValue]
  | 2, _ => simp [t_Mod, vp_V, fl, lk, fv, gI, gJ, gR, nH, va_up, va_rf, defaultValue]
  | 3, _ => simp [t_Mod, vp_V, fl, lk, fv, gI, gJ, gR, nH, va_up, va_rf, defaultValue]
  | 4, _ => simp [t_Mod, vp_V, fl, lk, fv, gI, gJ, gR, nH, va_up, va_rf, defaultValue]
  | 5, _ => simp [t_Mod, vp_V, fl, lk, fv, gI, gJ, gR, nH, va_up, va_rf, defaultValue]
  | 6, _ => simp [t_Mod, vp_V, fl, lk, fv, gI, gJ, gR, nH, va_up, va_rf, defaultValue]
  | 7, _ => simp [t_Mod, vp_V, fl, lk, fv, gI, gJ, gR, nH, va_up, va_rf, defaultValue]
  | 8, _ => simp [t_Mod, vp_V, fl, lk, fv, gI, gJ, gR, nH, va_up, va_rf, defaultValue]
  | 9, _ => simp [t_Mod, vp_V, fl, lk, fv, gI, gJ, gR, nH, va_up, va_rf, defaultValue]
  | 10, _ => simp [t_Mod, vp_V, fl, lk, fv, gI, gJ, gR, nH, va_up, va_rf, defaultValue]
  | 11, _ => simp [t_Mod, vp_V, fl, lk, fv, gI, gJ, gR, nH, va_up, va_rf, defaultValue]
  | 12, _ => simp [t_Mod, vp_V, fl, lk, fv, gI, gJ, gR, nH, va_up, va_rf, defaultValue]
  | 13, _ => simp [t_Mod, vp_V, fl, lk, fv, gI, gJ, gR, nH, va_up, va_rf, defaultValue]
  | 14, _ => simp [t_Mod, vp_V, fl, lk, fv, gI, gJ, gR, nH, va_up, va_rf, defaultValue]
  | 15, _ => simp [t_Mod, vp_V, fl, lk, fv, gI, gJ, gR, nH, va_up, va_rf, defaultValue]
  | 16, _ => simp [t_Mod, vp_V, fl, lk, fv, gI, gJ, gR, nH, va_up, va_rf, defaultValue]
  | 17, _ => simp [t_Mod, vp_V, fl, lk, fv, gI, gJ, gR, nH, va_up, va_rf, defaultValue]
  | 18, _ => simp [t_Mod, vp_V, fl, lk, fv, gI, gJ, gR, nH, va_up, va_rf, defaultValue]
  | 19, _ => simp [t_Mod, vp_V, fl, lk, fv, gI, gJ, gR, nH, va_up, va_rf, defaultValue]
  | 20, _ => simp [t_Mod, vp_V, fl, lk, fv, gI, gJ, gR, nH, va_up, va_rf, defaultValue]
  | 21, _ => simp [t_Mod, vp_V, fl, lk, fv, gI, gJ, gR, nH, va_up, va_rf, defaultValue]
  | 22, _ => simp [t_Mod, vp_V, fl, lk, fv, gI, gJ, gR, nH, va_up, va_rf, defaultValue]
  | 23, _ => simp [t_Mod, vp_V, fl, lk, fv, gI, gJ, gR, nH, va_up, va_rf, defaultValue]
  | 24, _ => simp [t_Mod, vp_V, fl, lk, fv, gI, gJ, gR, nH, va_up, va_rf, defaultValue]
  | 25, _ => simp [t_Mod, vp_V, fl, lk, fv, gI, gJ, gR, nH, va_up, va_rf, defaultValue]
  | 26, _ => simp [t_Mod, vp_V, fl, lk, fv, gI, gJ, gR, nH, va_up, va_rf, defaultValue]
  | 27, _ => simp [t_Mod, vp_V, fl, lk, fv, gI, gJ, gR, nH, va_up, va_rf, defaultValue]
  | 28, _ => simp [t_Mod, vp_V, fl, lk, fv, gI, gJ, gR, nH, va_up, va_rf, defaultValue]
  | 29, _ => simp [t_Mod, vp_V, fl, lk, fv, gI, gJ, gR, nH, va_up, va_rf, defaultValue]
  | 30, _ => simp [t_Mod, vp_V, fl, lk, fv, gI, gJ, gR, nH, va_up, va_rf, defaultValue]
  | 31, _ => simp [t_Mod, vp_V, fl, lk, fv, gI, gJ, gR, nH, va_up, va_rf, defaultValue]
  | 32, _ => simp [t_Mod, vp_V, fl, lk, fv, gI, gJ, gR, nH, va_up, va_rf, defaultValue]
  | j + 33, hj => omega
theorem nf_AL (h : HS) (q j : Nat) (hj : j < 3) : defaultValue (t_AL j) = vp_V (fl (nH h q (16 + 9) 0) q 9) j := by
  match j, hj with
  | 0, _ => simp [t_AL, vp_V, fl, lk, fv, gI, gJ, gR, nH, va_up, va_rf, defaultValue]
  | 1, _ => simp [t_AL, vp_V, fl, lk, fv, gI, gJ, gR, nH, va_up, va_rf, defaultValue]
  | 2, _ => simp [t_AL, vp_V, fl, lk, fv, gI, gJ, gR, nH, va_up, va_rf, defaultValue]
  | j + 3, hj => omega
theorem cat_i (x : Int32) : (Value.int x).category = 1 := rfl
theorem cat_l (x : Int64) : (Value.long x).category = 2 := rfl
end
section
/-! MORE ROWS: arrays of references, copies, ArrayList's empty array, class objects -/
/-- the kinds of what stands in lists: Bus, Port, Sheet, Spot, Wire -/
def lsT (t : Nat) : Prop := t = 17 ∨ t = 20 ∨ t = 21 ∨ t = 22 ∨ t = 23
section MXE
variable {p : Program} {l : Launch} {e : Env} {R : Room} {s : State} {m : MethodId} {args : Array Value} {below : List Frame} {meth : Method} {c : Code} {H : Heap} {locs : List Loc} {cells slots : Nat} {Q : State → Prop}
variable {cc : ByteArray} {pc : Nat} {ls : Array Slot} {rest : List Value} {D : va_G} {cs : CS} {Z : Nat → Nat} {A : Nat → Prop} {h : HS} {r : Option Nat} {a : Nat}
theorem mx_empty (hx : p.tables.exec = Jvm.exec) (hb : c.code = cc) (hW : ∀ w ∈ WA, w.before args s = true) {index : Nat} (hown : s.vm.findClass "java/util/ArrayList" = some m.cls) (hZ : mZ Z A s s.heap) (hR : mR D cs A h s.heap H locs) (hlink : Cond.fieldLink "java/util/ArrayList" index "java/util/ArrayList" "DEFAULTCAPACITY_EMPTY_ELEMENTDATA" "[Ljava/lang/Object;" ∈ WA) (hdg : decode cc pc = .ok (.getstatic index, 3))
    (kk : W p l e R s m args below meth c H locs cells slots Q (F0 m (pc + 3) ls (va_rf (some (Z 0)) :: rest))) : W p l e R s m args below meth c H locs cells slots Q (F0 m pc ls rest) :=
  va_gets hx hb hZ.1.1 hR.2 hown (hW _ hlink) (fun _ h9 => h9) hdg kk
/-- the length of an array of objects, or of ArrayList's empty one -/
theorem mx_alenZ (hx : p.tables.exec = Jvm.exec) (hb : c.code = cc) (hK : va_K D vcl (mtys cs) s) (hZ : mZ Z A s s.heap) (hR : mR D cs A h s.heap H locs) {n : Nat} (hr : (r = some (Z 0) ∧ n = 0) ∨ ∃ a, r = some a ∧ gT h a = 4 ∧ n = gN h a) (hdg : decode cc pc = .ok (.arraylength, 1))
    (kk : W p l e R s m args below meth c H locs cells slots Q (F0 m (pc + 1) ls (.int (nI n) :: rest))) : W p l e R s m args below meth c H locs cells slots Q (F0 m pc ls (va_rf r :: rest)) := by
  rcases hr with ⟨rfl, rfl⟩ | ⟨a, rfl, ht, rfl⟩
  · exact va_tlen hx hb hZ.1.2 hR.2 rfl hdg kk
  · exact mx_alen hx hb hK hR (a := a) rfl (by rw [ht]; decide) (by rw [ht]; decide) hdg kk
theorem ls_any (hK : mK D cs Z s) (hP : mP D cs A h H) (ht : lsT (gT h a)) : va_Any "java/lang/Object" s H a := by
  obtain ⟨L, hL, hP, hD⟩ := hP
  obtain ⟨q0, hq⟩ := va_pl_get (X := []) (f := toE cs h) ((hL a).mpr (by rcases ht with z | z | z | z | z <;> rw [z] <;> decide))
  have key : ∀ (ci : Nat) (C : String) (T : u_T) (N : Nat), gT h a = 16 + ci → vcl[ci]? = some (C, T, N) → (C, "java/lang/Object") ∈ castP → va_Any "java/lang/Object" s H a := by
    intro ci C T N e1 e2 e3
    rw [toE_o e1] at hq
    refine va_rAny hK.1 hP hq e2 (fun comp c0 g1 g2 => ?_)
    obtain ⟨c1, t1, f1, f2, f3⟩ := Cond.castable_spec (va_Nw.use (A := #[]) rfl (hK.2.2.2.2.2.1 _ e3))
    cases g2.symm.trans f1
    cases g1.symm.trans f2
    exact f3
  rcases ht with z | z | z | z | z
  · exact key 1 "NetJoins$Bus" F_Bus 4 z rfl (by decide)
  · exact key 4 "NetJoins$Port" F_Port 5 z rfl (by decide)
  · exact key 5 "NetJoins$Sheet" F_Sheet 5 z rfl (by decide)
  · exact key 6 "NetJoins$Spot" F_Spot 6 z rfl (by decide)
  · exact key 7 "NetJoins$Wire" F_Wire 7 z rfl (by decide)
theorem mx_oast (hx : p.tables.exec = Jvm.exec) (hb : c.code = cc) (hK : mK D cs Z s) (hR : mR D cs A h s.heap H locs) (er : r = some a) (ht : gT h a = 4) {v : Option Nat} {b : Nat} (ev : v = some b) (htb : lsT (gT h b)) {i : Int32} (hin : vp_in i (gN h a)) (hdg : decode cc pc = .ok (.aastore, 1))
    (kk : ∀ (H1 : Heap) (locs1 : List Loc), mR D cs A (sQ h a i.toNatClampNeg v) s.heap H1 locs1 → W p l e R s m args below meth c H1 locs1 cells slots Q (F0 m (pc + 1) ls rest)) : W p l e R s m args below meth c H locs cells slots Q (F0 m pc ls (va_rf v :: .int i :: va_rf r :: rest)) := by
  subst er ev
  have hany := ls_any hK hR.1 htb
  obtain ⟨⟨L, hL, hP, hD⟩, hS⟩ := hR
  have hm : a ∈ L := (hL a).mpr (by rw [ht]; omega)
  obtain ⟨q0, hq⟩ := va_pl_get (X := []) (f := toE cs h) hm
  have hq' := hq
  rw [toE_4 ht] at hq'
  exact va_astqM hx hb hK.1 hP hD hS q0 3 hq' rfl hany hin hdg fun H1 locs1 hP1 hD1 hS1 => kk H1 locs1 ⟨mP.put hL hD hq hm rfl (toE_wQ (by rw [toE_4 (by exact ht), gQ_wQ]; rfl)) hP1 hD1, hS1⟩
theorem mx_arr_o (hx : p.tables.exec = Jvm.exec) (hb : c.code = cc) (hW : ∀ w ∈ WA, w.before args s = true) {own : String} {index : Nat} (hown : s.vm.findClass own = some m.cls) (hK : mK D cs Z s) (hR : mR D cs A h s.heap H locs) (hA : ∀ q, s.heap.size ≤ q → A q) (hcl : Cond.classLink own index "java/lang/Object" ∈ WA) {n : Int32} {N' : Nat} (hn : ¬ n < 0) (hN : n.toNatClampNeg = N') (hbytes : N' ≤ 100000) (hcells : cells + 1 ≤ R.cells) (hslots : slots + N' ≤ R.slots) (hdg : decode cc pc = .ok (.anewarray index, 3))
    (kk : ∀ (q : Nat) (H1 : Heap), gT h q = 0 → mR D cs A (nH h q 4 N') s.heap H1 locs → W p l e R s m args below meth c H1 locs (cells + 1) (slots + N') Q (F0 m (pc + 3) ls (va_rf (some q) :: rest))) : W p l e R s m args below meth c H locs cells slots Q (F0 m pc ls (.int n :: rest)) := by
  obtain ⟨⟨L, hL, hP, hD⟩, hS⟩ := hR
  refine va_newq hx hb hown (hW _ hcl) hK.2.1 hK.1 hP hD hS hA hn hN (by omega) hcells hslots hdg fun q cA H1 hK1 hP1 hD1 hS1 => ?_
  have e1 : cA = cs.2.2.2.1 := by
    obtain ⟨k1, c1, -, -, -, a1⟩ := (hK1.2 5 (cA, .object "java/lang/Object") rfl).2
    obtain ⟨k2, c2, -, -, -, a2⟩ := (hK.1.2 3 (cs.2.2.2.1, .object "java/lang/Object") rfl).2
    exact Option.some.inj (a1.symm.trans a2)
  subst e1
  obtain ⟨h1, h2⟩ := mP.new (t := 4) (n := N') hL (by omega) (by rw [toE_4 (gT_nH h q 4 N')]; simp [gN, gQ, nH, va_up]) hP1 hD1
  exact kk q H1 h2 ⟨h1, hS1⟩
/-- System.arraycopy of ints -/
theorem mx_copyi (hx : p.tables.exec = Jvm.exec) (hb : c.code = cc) (hW : ∀ w ∈ WA, w.before args s = true) (hml : c.maxLocals = ls.size) {own : String} {index : Nat} (hown : s.vm.findClass own = some m.cls) (hK : va_K D vcl (mtys cs) s) (hR : mR D cs A h s.heap H locs) (hlink : Cond.methodLink own index arraycopyName ∈ WA) (hnat : Cond.native arraycopyName ∈ WA) (hstat : Cond.static arraycopyName ∈ WA) (hini : Cond.initialized "java/lang/System" ∈ WA) {r0 : Option Nat} {a0 : Nat} (e0 : r0 = some a0) (ht0 : gT h a0 = 1) (er : r = some a) (ht : gT h a = 1) {sp dp n : Int32} (h1 : ¬ sp < 0) (h2 : ¬ dp < 0) (h3 : ¬ n < 0) (h4 : sp.toNatClampNeg + n.toNatClampNeg ≤ gN h a0) (h5 : dp.toNatClampNeg + n.toNatClampNeg ≤ gN h a)
    (hframes : 1 ≤ R.frames) (hlocals : (rest.map fun v => v.category).sum + (nativeFrameWords "java/lang/System" "arraycopy" 5 + 11) ≤ R.locals) (hdg : decode cc pc = .ok (.invokestatic index, 3))
    (kk : ∀ (H1 : Heap) (locs1 : List Loc), mR D cs A (wA h a (va_cpy (gA h a0) (gA h a) sp.toNatClampNeg dp.toNatClampNeg n.toNatClampNeg)) s.heap H1 locs1 → W p l e R s m args below meth c H1 locs1 cells slots Q (F0 m (pc + 3) ls rest)) : W p l e R s m args below meth c H locs cells slots Q (F0 m pc ls (.int n :: .int dp :: va_rf r :: .int sp :: va_rf r0 :: rest)) := by
  subst e0 er
  obtain ⟨⟨L, hL, hP, hD⟩, hS⟩ := hR
  have hm0 : a0 ∈ L := (hL a0).mpr (by rw [ht0]; omega)
  have hm : a ∈ L := (hL a).mpr (by rw [ht]; omega)
  obtain ⟨q0, hq0⟩ := va_pl_get (X := []) (f := toE cs h) hm0
  obtain ⟨q1, hq⟩ := va_pl_get (X := []) (f := toE cs h) hm
  have hq' := hq
  rw [toE_1 ht] at hq'
  rw [toE_1 ht0] at hq0
  exact va_copyi hx hb hml hown (hW _ hlink) (hW _ hnat) (hW _ hstat) (hW _ hini) hK hP hD hS q0 q1 0 0 hq0 hq' rfl rfl rfl h1 h2 h3 h4 h5 (fun _ _ => rfl) hframes hlocals hdg fun H1 locs1 hP1 hD1 hS1 => kk H1 locs1 ⟨mP.put hL hD hq hm rfl (toE_wA (by rw [toE_1 (by exact ht), gA_wA]; rfl)) hP1 hD1, hS1⟩
/-- System.arraycopy of what stands in lists -/
theorem mx_copyo (hx : p.tables.exec = Jvm.exec) (hb : c.code = cc) (hW : ∀ w ∈ WA, w.before args s = true) (hml : c.maxLocals = ls.size) {own : String} {index : Nat} (hown : s.vm.findClass own = some m.cls) (hK : mK D cs Z s) (hR : mR D cs A h s.heap H locs) (hlink : Cond.methodLink own index arraycopyName ∈ WA) (hnat : Cond.native arraycopyName ∈ WA) (hstat : Cond.static arraycopyName ∈ WA) (hini : Cond.initialized "java/lang/System" ∈ WA) {r0 : Option Nat} {a0 : Nat} (e0 : r0 = some a0) (ht0 : gT h a0 = 4) (er : r = some a) (ht : gT h a = 4) {sp dp n : Int32} (h1 : ¬ sp < 0) (h2 : ¬ dp < 0) (h3 : ¬ n < 0) (h4 : sp.toNatClampNeg + n.toNatClampNeg ≤ gN h a0) (h5 : dp.toNatClampNeg + n.toNatClampNeg ≤ gN h a) (hel : ∀ i, i < n.toNatClampNeg → ∀ y, gQ h a0 (sp.toNatClampNeg + i) = some y → lsT (gT h y))
    (hframes : 1 ≤ R.frames) (hlocals : (rest.map fun v => v.category).sum + (nativeFrameWords "java/lang/System" "arraycopy" 5 + 11) ≤ R.locals) (hdg : decode cc pc = .ok (.invokestatic index, 3))
    (kk : ∀ (H1 : Heap) (locs1 : List Loc), mR D cs A (wQ h a (va_cpy (gQ h a0) (gQ h a) sp.toNatClampNeg dp.toNatClampNeg n.toNatClampNeg)) s.heap H1 locs1 → W p l e R s m args below meth c H1 locs1 cells slots Q (F0 m (pc + 3) ls rest)) : W p l e R s m args below meth c H locs cells slots Q (F0 m pc ls (.int n :: .int dp :: va_rf r :: .int sp :: va_rf r0 :: rest)) := by
  subst e0 er
  have hPm := hR.1
  obtain ⟨⟨L, hL, hP, hD⟩, hS⟩ := hR
  have hm0 : a0 ∈ L := (hL a0).mpr (by rw [ht0]; omega)
  have hm : a ∈ L := (hL a).mpr (by rw [ht]; omega)
  obtain ⟨q0, hq0⟩ := va_pl_get (X := []) (f := toE cs h) hm0
  obtain ⟨q1, hq⟩ := va_pl_get (X := []) (f := toE cs h) hm
  have hq' := hq
  rw [toE_4 ht] at hq'
  rw [toE_4 ht0] at hq0
  exact va_copyM hx hb hml hown (hW _ hlink) (hW _ hnat) (hW _ hstat) (hW _ hini) hK.1 hP hD hS q0 q1 3 3 hq0 hq' rfl rfl h1 h2 h3 h4 h5 (fun i hi y hy => ls_any hK hPm (hel i hi y hy)) hframes hlocals hdg fun H1 locs1 hP1 hD1 hS1 => kk H1 locs1 ⟨mP.put hL hD hq hm rfl (toE_wQ (by rw [toE_4 (by exact ht), gQ_wQ]; rfl)) hP1 hD1, hS1⟩
theorem mx_ldcO (hx : p.tables.exec = Jvm.exec) (hb : c.code = cc) (hW : ∀ w ∈ WA, w.before args s = true) {own : String} {index : Nat} (hown : s.vm.findClass own = some m.cls) (hK : mK D cs Z s) (hlink : Cond.classLink own index "[Ljava/lang/Object;" ∈ WA) (hdg : decode cc pc = .ok (.ldc index, 2))
    (kk : W p l e R s m args below meth c H locs cells slots Q (F0 m (pc + 2) ls (va_rf (some (Z 1)) :: rest))) : W p l e R s m args below meth c H locs cells slots Q (F0 m pc ls rest) :=
  va_ldcM hx hb hown (hW _ hlink) hK.2.2.1 hdg kk
theorem mx_getC (hx : p.tables.exec = Jvm.exec) (hb : c.code = cc) (hW : ∀ w ∈ WA, w.before args s = true) (hml : c.maxLocals = ls.size) {own : String} {index : Nat} (hown : s.vm.findClass own = some m.cls) (hK : mK D cs Z s) (hR : mR D cs A h s.heap H locs) (hlink : Cond.methodLink own index ⟨"java/lang/Object", "getClass", "()Ljava/lang/Class;"⟩ ∈ WA) (hsel : Cond.selects "[Ljava/lang/Object;" ⟨"java/lang/Object", "getClass", "()Ljava/lang/Class;"⟩ ⟨"java/lang/Object", "getClass", "()Ljava/lang/Class;"⟩ ∈ WA) (hinst : Cond.instanceMethod ⟨"java/lang/Object", "getClass", "()Ljava/lang/Class;"⟩ ∈ WA) (hnat : Cond.native ⟨"java/lang/Object", "getClass", "()Ljava/lang/Class;"⟩ ∈ WA) (er : r = some a) (ht : gT h a = 4) (hframes : 1 ≤ R.frames) (hlocals : (rest.map fun v => v.category).sum + 14 ≤ R.locals) (hdg : decode cc pc = .ok (.invokevirtual index, 3))
    (kk : W p l e R s m args below meth c H locs cells slots Q (F0 m (pc + 3) ls (va_rf (some (Z 1)) :: rest))) : W p l e R s m args below meth c H locs cells slots Q (F0 m pc ls (va_rf r :: rest)) := by
  subst er
  have hcell := (hR.1.at (a := a) (by rw [ht]; decide)).1
  rw [toE_4 ht] at hcell
  obtain ⟨kA, comp, -, -, -, k4⟩ := (hK.1.2 3 (cs.2.2.2.1, .object "java/lang/Object") rfl).2
  exact va_getC hx hb hml hown (hW _ hlink) (va_Dc.use hK.2.2.2.1) (hW _ hsel) (hW _ hinst) (hW _ hnat) hK.2.2.1 ⟨_, hcell, rfl, k4⟩ hframes hlocals hdg kk
theorem mAOA_spec (hm : mAOA s) : ∃ comp c k, s.vm.findClass (FieldType.array .int).toString = some comp ∧ s.vm.classes[c]? = some k ∧ k.kind = .array comp (.array .int) ∧ s.vm.findClass ("[" ++ (FieldType.array .int).toString) = some c := by
  unfold mAOA Cond.before Cond.holds at hm
  simp only [Cond.value, beq_iff_eq] at hm
  cases hc : s.vm.findClass (FieldType.array FieldType.int).toString with
  | none => simp [hc] at hm
  | some comp =>
    simp only [hc, Option.bind_some, Option.bind_eq_some_iff, Option.map_eq_some_iff] at hm
    obtain ⟨c, hi, k, hk, hb⟩ := hm
    obtain ⟨hlt, hp, -⟩ := Array.findIdx?_eq_some_iff_getElem.mp hi
    have hkk : s.vm.classes[c] = k := (Array.getElem?_eq_some_iff.mp hk).2
    rw [hkk] at hp
    cases hkind : k.kind with
    | array component ty =>
      rw [hkind] at hb hp
      simp at hb hp
      exact ⟨comp, c, k, rfl, hk, by rw [hkind, hp, hb.1], hb.2⟩
    | _ => rw [hkind] at hb; simp at hb
/-- a row of ints is put into an array of rows -/
theorem mx_rast (hx : p.tables.exec = Jvm.exec) (hb : c.code = cc) (hK : mK D cs Z s) (hR : mR D cs A h s.heap H locs) (er : r = some a) (ht : gT h a = 5) {v : Option Nat} {b : Nat} (ev : v = some b) (htb : gT h b = 1) {i : Int32} (hin : vp_in i (gN h a)) (hdg : decode cc pc = .ok (.aastore, 1))
    (kk : ∀ (H1 : Heap) (locs1 : List Loc), mR D cs A (sQ h a i.toNatClampNeg v) s.heap H1 locs1 → W p l e R s m args below meth c H1 locs1 cells slots Q (F0 m (pc + 1) ls rest)) : W p l e R s m args below meth c H locs cells slots Q (F0 m pc ls (va_rf v :: .int i :: va_rf r :: rest)) := by
  subst er ev
  have hcb := (hR.1.at (a := b) (by rw [htb]; decide)).1
  rw [toE_1 htb] at hcb
  obtain ⟨comp, c1, k1, f1, f2, f3, f4⟩ := mAOA_spec hK.2.2.2.2.1
  have e1 : c1 = cs.2.2.2.2 := by
    have a2 : s.vm.findClass ("[" ++ (FieldType.array .int).toString) = some cs.2.2.2.2 := (hK.1.2 4 (cs.2.2.2.2, .array .int) rfl).2
    exact Option.some.inj (f4.symm.trans a2)
  have e2 : comp = cs.1 := by
    have a2 : s.vm.findClass ("[" ++ FieldType.int.toString) = some cs.1 := (hK.1.2 0 (cs.1, .int) rfl).2
    exact Option.some.inj (f1.symm.trans a2)
  subst e1 e2
  obtain ⟨kC, hkC, -⟩ := Vm.findClass_spec f1
  obtain ⟨⟨L, hL, hP, hD⟩, hS⟩ := hR
  have hm : a ∈ L := (hL a).mpr (by rw [ht]; omega)
  obtain ⟨q0, hq⟩ := va_pl_get (X := []) (f := toE cs h) hm
  have hq' := hq
  rw [toE_5 ht] at hq'
  have hlt : i.toNatClampNeg < gN h a := Nat.not_le.mp fun q => hin (Or.inr q)
  refine W.aast hx hb (hP q0 _ hq') (fun q h => by cases h) (fun h => by cases h) f2 f3 rfl hkC ⟨fun q => hin (Or.inl q), by show _ < (arrV _ _ _).slots.size; rw [arrV_size]; exact hlt⟩ hcb (fun q h => by cases h) hkC (va_asg _ _) rfl rfl hdg fun H1 e z oq => ?_
  have hx1 : va_at D vcl (a, .inl (cs.2.2.2.2, gN h a, .inr (.inr (.inr (.inr (va_up (gQ h a) i.toNatClampNeg (some b))))))) H1 := by
    show H1[a]? = some (vp_cell _ _)
    rw [e]
    rw [vp_cell_q, vp_cell_q, arrV_store]
    congr 2
    funext q
    by_cases hq9 : q = i.toNatClampNeg
    · subst hq9
      simp [updV, va_up, va_rf]
    · simp [updV, va_up, hq9]
  exact kk H1 _ ⟨mP.put hL hD hq hm rfl (toE_wQ (by rw [toE_5 (by exact ht), gQ_wQ]; rfl)) (hP.set hD hq' hx1 oq) (hD.set hq'), hS.put z oq (hD.2 q0 _ hq')⟩
end MXE
end
section
/-! WHAT MAY THROW. Kinds of exceptions: 1 IndexOutOfBounds, 2 IllegalState, 3 IllegalArgument -/
def exN (k : Nat) : String := if k = 1 then "java/lang/IndexOutOfBoundsException" else if k = 2 then "java/lang/IllegalStateException" else "java/lang/IllegalArgumentException"
/-- the thrown end of a callee that began with h in a heap of sz cells -/
def tE (D : va_G) (cs : CS) (px : Nat → HS → Prop) (h : HS) (sz mc ms : Nat) (st : State) (q : Addr) (t : State) : Prop :=
  ∃ (k : Nat) (u : HS) (ce : Cell) (L : List Loc), px k u ∧ mB D cs h sz u t ∧ va_F (fA h sz) st t ∧ (t.heap[q]? = some ce ∧ ce.vm = .none ∧ st.vm.findClass (exN k) = some ce.cls) ∧ st.WarmedH t.vm ∧ st.sameButNew ({ t with vm := st.vm } : State) L mc ms ∧ ∀ z ∈ L, fA h sz z.base
def tQ (D : va_G) (cs : CS) (Qc : Array Value → State → Outcome → State → Prop) (px : Nat → HS → Prop) (h : HS) (sz mc ms : Nat) : Array Value → State → Outcome → State → Prop := fun a st o t =>
  (Qc a st o t ∧ ∃ L, FrameEnd st o t L mc ms ∧ ∀ z ∈ L, fA h sz z.base) ∨ ∃ q, o = .threw q ∧ tE D cs px h sz mc ms st q t
def TMet (l : Launch) (y : MethodName) (ws : List Cond) (rm : Room) (D : va_G) (cs : CS) (Pc : Array Value → State → Prop) (Qc : Array Value → State → Outcome → State → Prop) (px : Nat → HS → Prop) (h : HS) (sz mc ms : Nat) : Prop :=
  MetFree l y (headSpec ws rm) Pc (fun _ _ _ _ _ => True) (tQ D cs Qc px h sz mc ms)
def tMQ (D : va_G) (cs : CS) (below : List Frame) (Qc : Array Value → State → Outcome → State → Prop) (px : Nat → HS → Prop) (h : HS) (sz : Nat) (a : Array Value) (s : State) (mc ms : Nat) : State → Prop := fun t =>
  ∃ o, t.status = .running ∧ Ended t below o ∧ tQ D cs Qc px h sz mc ms a s o t
/-- a walk of an exception q over the frame g -/
def tW (p : Program) (l : Launch) (e : Env) (R : Room) (s : State) (m : MethodId) (args : Array Value) (below : List Frame) (meth : Method) (c : Code) (H : Heap) (locs : List Loc) (cells slots : Nat) (Q : State → Prop) (g : JFrame) (q : Addr) : Prop :=
  ∀ T : State, T.heap = H → Stand p l e R s m args below meth c T locs cells slots → ∃ t, Steps p.tables e below ((T.setTop g).pushFrame (.throwing q)) t ∧ Q t
section MXT
variable {p : Program} {l : Launch} {e : Env} {R : Room} {s : State} {m : MethodId} {args : Array Value} {below : List Frame} {meth : Method} {c : Code} {H : Heap} {locs : List Loc} {cells slots : Nat} {Q : State → Prop}
variable {cc : ByteArray} {pc : Nat} {ls : Array Slot} {rest : List Value} {D : va_G} {cs : CS} {Z : Nat → Nat} {h h0 : HS} {px : Nat → HS → Prop} {Qc : Array Value → State → Outcome → State → Prop} {mc ms sz : Nat}
theorem t_ret {g : JFrame} (k : W p l e R s m args below meth c H locs cells slots (MQ below Qc args s mc ms (fA h0 sz)) g) : W p l e R s m args below meth c H locs cells slots (tMQ D cs below Qc px h0 sz args s mc ms) g := by
  intro T hT X
  obtain ⟨t, a1, o, b1, b2, b3, b4⟩ := k T hT X
  exact ⟨t, a1, o, b1, b2, Or.inl ⟨b3, b4⟩⟩
/-- an exception that nobody catches here goes to the caller -/
theorem t_out {k : Nat} {ce : Cell} {q : Addr} (hno : c.exceptionTable.isEmpty = true) (hlocks : meth.locks = false) (hcell : H[q]? = some ce) (hv : ce.vm = .none) (hcl : s.vm.findClass (exN k) = some ce.cls) (hR : mR D cs (fA h0 s.heap.size) h s.heap H locs) (hw : px k h) (hc : cells ≤ mc) (hs : slots ≤ ms) :
    tW p l e R s m args below meth c H locs cells slots (tMQ D cs below Qc px h0 s.heap.size args s mc ms) (F0 m pc ls rest) q := by
  intro T hT X
  have hout : ∀ x ∈ c.exceptionTable.toList, covers x pc = false := fun x hx => by
    have h0 : c.exceptionTable = #[] := by simpa [Array.isEmpty_iff] using hno
    rw [h0] at hx
    cases hx
  obtain ⟨st1, hrun, hend, hW, hsm⟩ := X.leaveThrown q (g := F0 m pc ls rest) rfl rfl rfl hout hlocks
  refine ⟨_, st1, .threw q, hrun, hend, Or.inr ⟨q, rfl, k, h, ce, locs, hw, ?_, ?_, ⟨?_, hv, hcl⟩, hW, hsm.mono hc hs, hR.2.2.2⟩⟩
  · show mP D cs _ h T.heap
    rw [hT]; exact hR.1
  · exact hR.2.F hT
  · show T.heap[q]? = some ce
    rw [hT]; exact hcell
/-- the same place, as if the method were called anew in this heap -/
theorem t_anew {T : State} (X : Stand p l e R s m args below meth c T locs cells slots) {a b : Nat} (hc : cells + a ≤ R.cells) (hs : slots + b ≤ R.slots) :
    Stand p l e { R with cells := a, slots := b } ((T.setVm s.vm).setFrames (.invoking m args :: below)) m args below meth c T [] 0 0 := by
  have htop : (T.setVm s.vm).topJava?.isSome := X.here.top
  have hF : ((T.setVm s.vm).setFrames (.invoking m args :: below)).frames = .invoking m args :: below := State.frames_setFrames _ (State.cur_lt_of_top htop)
  obtain ⟨g₀, hg0⟩ := Option.isSome_iff_exists.mp htop
  obtain ⟨r, hr⟩ := State.topJava?_eq_some.mp hg0
  have hroom := X.room
  have hlo : ((T.setVm s.vm).setFrames (.invoking m args :: below)).localsInUse = s.localsInUse := by
    rw [State.localsInUse_invoking hF (meth := meth) (c := c) X.method X.code, State.localsInUse_invoking X.frames X.method X.code]
  have l1 : e.platform.stackLimits (T.setVm s.vm).me = e.platform.stackLimits s.me := X.limits
  have l2 : (T.setVm s.vm).me.stackBytes = s.me.stackBytes := X.bytes
  have z1 := X.heapSize
  have z2 := X.used
  have nil : T.heap.toList.drop T.heap.size = [] := List.drop_eq_nil_of_le (Nat.le_of_eq Array.length_toList)
  refine ⟨X.admits, X.cas, X.clock, hF, ?_, X.hears, X.method, X.code, X.here, X.tail, X.warmed, by rw [State.stackLimits_setFrames]; rfl, by rw [State.stackBytes_setFrames]; rfl, ?_, Nat.le_refl _, Nat.le_refl _, ?_, ?_, fun a c9 h9 => ⟨c9, h9, rfl, rfl, fun _ _ => rfl⟩⟩
  · simp only [State.hasRoom, Bool.and_eq_true, decide_eq_true_eq] at hroom ⊢
    obtain ⟨⟨⟨⟨h1, h2, h3, h4, h5, h6⟩, h7⟩, h8⟩, h9⟩ := hroom
    rw [X.frames, List.length_cons] at h2 h3
    simp only [hF, hlo, List.length_cons, State.stackLimits_setFrames, State.stackBytes_setFrames, l1, l2]
    have y1 : T.heap.size + a ≤ e.platform.maxCells := by omega
    have y2 : T.slotsUsed + b ≤ e.platform.maxSlots := by omega
    exact ⟨⟨⟨⟨h1, by omega, by omega, h4, h5, h6⟩, y1⟩, y2⟩, X.book⟩
  · obtain ⟨t, ht, -⟩ := State.frames_cons hr
    show T.setVm s.vm = { ((T.setVm s.vm).setFrames (.invoking m args :: below)).setFrames (T.setVm s.vm).frames with heap := T.heap, slotsUsed := T.slotsUsed }
    rw [State.setFrames_setFrames, State.setFrames_self ht]
    rfl
  · show T.slotsUsed = T.slotsUsed + ((T.heap.toList.drop T.heap.size).map (·.slots.size)).sum
    rw [nil]; rfl
  · show ((T.heap.toList.drop T.heap.size).map (·.slots.size)).sum ≤ 0
    rw [nil]; exact Nat.le_refl _
theorem t_isRef {C n d : String} {A : Nat → Prop} (hz : va_Zq C n d A s s.heap) : (Cond.isRef (.static C n d)).before args s = true := by
  rcases hz with ⟨cf, kf, fi, f, a, cell, h1, h2, h3, h4, h5, h6, h7, -⟩ | ⟨t, cf, kf, fi, f, a, cell, h1, h2, h3, h4, h5, h6, h7, -⟩
  · have he : (Term.static C n d).eval args s none [] s = some .null := by simp [Term.eval, State.fieldNamed?, h1, h2, h4, h5, h6, h7]
    simp [Cond.before, Cond.holds, Cond.value, he]
  · have he : (Term.static C n d).eval args s none [] s = some (.ref t) := by simp [Term.eval, State.fieldNamed?, h1, h2, h4, h5, h6, h7]
    simp [Cond.before, Cond.holds, Cond.value, he]
end MXT
/-- the words of a throw that no call takes along -/
def tBad (X : String) : List Cond := [.castable X X, .declares ⟨"java/lang/RuntimeException", "<init>", "(Ljava/lang/String;)V"⟩, .declares ⟨"java/lang/Exception", "<init>", "(Ljava/lang/String;)V"⟩, .declares ⟨"java/lang/Throwable", "<init>", "(Ljava/lang/String;)V"⟩, .laysStatic "java/lang/Throwable" "UNASSIGNED_STACK" "[Ljava/lang/StackTraceElement;", .laysStatic "java/lang/Throwable" "SUPPRESSED_SENTINEL" "Ljava/util/List;", .isRef (.static "java/lang/Throwable" "UNASSIGNED_STACK" "[Ljava/lang/StackTraceElement;"), .isRef (.static "java/lang/Throwable" "SUPPRESSED_SENTINEL" "Ljava/util/List;")]
def tNames : List String := ["java/lang/RuntimeException", "java/lang/Exception"]
theorem t_at1 : ∀ w ∈ Bundle.ownAtoms "NetJoins" 221 (exN 1) tNames, w ∈ tables_1 ∧ goodWord w = true ∨ w ∈ tBad (exN 1) := by decide +kernel
theorem t_at2 : ∀ w ∈ Bundle.ownAtoms "NetJoins" 288 (exN 2) tNames, w ∈ tables_1 ∧ goodWord w = true ∨ w ∈ tBad (exN 2) := by decide +kernel
theorem t_at3 : ∀ w ∈ Bundle.ownAtoms "NetJoins" 114 (exN 3) tNames, w ∈ tables_1 ∧ goodWord w = true ∨ w ∈ tBad (exN 3) := by decide +kernel
end
section
section MXU
variable {p : Program} {l : Launch} {e : Env} {R : Room} {s : State} {m : MethodId} {args : Array Value} {below : List Frame} {meth : Method} {c : Code} {H : Heap} {locs : List Loc} {cells slots : Nat} {Q : State → Prop}
variable {cc : ByteArray} {pc : Nat} {ls : Array Slot} {rest : List Value} {D : va_G} {cs : CS} {Z : Nat → Nat} {h h0 : HS} {px : Nat → HS → Prop} {Qc : Array Value → State → Outcome → State → Prop} {mc ms sz : Nat}
/-- a text is loaded, by a short or a wide index -/
theorem t_ldc {T : State} (X : Stand p l e R s m args below meth c T locs cells slots) (hx : p.tables.exec = Jvm.exec) {own text : String} {index n : Nat} {a : Addr} (hown : s.vm.findClass own = some m.cls) (hst : vk_R own index text a s) {g : JFrame} (hg : g.method = m) (hdg : (decode c.code g.pc = .ok (.ldc index, 2) ∧ n = 2) ∨ (decode c.code g.pc = .ok (.ldc_w index, 3) ∧ n = 3)) :
    ∀ target, Steps p.tables e below (T.setTop { g with pc := g.pc + n, stack := .ref a :: g.stack }) target → Steps p.tables e below (T.setTop g) target := by
  have h1 : (Cond.stringRef own index text).before args s = true := hst.1
  have h2 : (Term.string own index).eval args s none [] s = some (.ref a) := by
    exact hst.2
  rcases hdg with ⟨hdg, rfl⟩ | ⟨hdg, rfl⟩
  · exact X.ldcString hx hown h1 h2 hg hdg
  · obtain ⟨k, cf, i, a', hk, hcf, hcp, -, hr, hev⟩ := Cond.stringRef_spec hown h1
    cases h2.symm.trans hev
    obtain ⟨k', hk', he⟩ := X.warmed.alike.2.2 _ _ hk
    have hr' : k'.resolved[index]? = some (some (.string a)) := by
      rcases X.warmed.entry hk hk' index with h | ⟨h, -⟩
      · rw [h]; exact hr
      · rw [hr] at h; cases h
    intro target hrest
    subst hg
    jvm_step X.here [hx, hdg, ldc_w.wp_string (e := e) (s := T) (f := g) X.here.top hk' (by rw [he]; exact hcf) hcp hr']
    exact hrest
/-- throw new E("text") -/
theorem mx_throw {k ic ik is n4 : Nat} {tx : String} (hx : p.tables.exec = Jvm.exec) (hb : c.code = cc) (hlT : l.stackTraces = false) (hown : s.vm.findClass "NetJoins" = some m.cls) (hW : ∀ w ∈ WA, w.before args s = true) (hK : mK D cs Z s) (hZ : mZ Z (fA h0 s.heap.size) s s.heap) (hlocks : meth.locks = false) (hno : c.exceptionTable.isEmpty = true) (hml : ls.size = c.maxLocals) (hR : mR D cs (fA h0 s.heap.size) h s.heap H locs)
    (hat : ∀ w ∈ Bundle.ownAtoms "NetJoins" ic (exN k) tNames, w ∈ tables_1 ∧ goodWord w = true ∨ w ∈ tBad (exN k)) (hcast : (exN k, exN k) ∈ castP) (hfit : Bundle.fit (exN k) = true) (hk : Cond.classLink "NetJoins" ik (exN k) ∈ WA) (hini : Cond.initialized (exN k) ∈ WA) (hst : (is, tx) ∈ strP)
    (d0 : decode cc pc = .ok (.new ik, 3)) (d3 : decode cc (pc + 3) = .ok (.dup, 1)) (d4 : (decode cc (pc + 4) = .ok (.ldc is, 2) ∧ n4 = 2) ∨ (decode cc (pc + 4) = .ok (.ldc_w is, 3) ∧ n4 = 3)) (d6 : decode cc (pc + 4 + n4) = .ok (.invokespecial ic, 3)) (d9 : decode cc (pc + 4 + n4 + 3) = .ok (.athrow, 1))
    (hRf : 6 ≤ R.frames) (hRl : (rest.map fun v => v.category).sum + 100 ≤ R.locals) (hRc : cells + 1 ≤ R.cells) (hRs : slots + 6 ≤ R.slots) (hc : cells + 1 ≤ mc) (hs : slots + 6 ≤ ms) (hw : px k h) :
    W p l e R s m args below meth c H locs cells slots (tMQ D cs below Qc px h0 s.heap.size args s mc ms) (F0 m pc ls rest) := by
  intro T hT X
  have htr : e.platform.stackTraces = false := (show e.platform.stackTraces = l.stackTraces by rw [X.admits.platform]).trans hlT
  have Y := t_anew X (a := 1) (b := 6) hRc hRs
  obtain ⟨s', hs'⟩ : ∃ z, z = (T.setVm s.vm).setFrames (.invoking m args :: below) := ⟨_, rfl⟩
  rw [← hs'] at Y
  have hvm : s'.vm = s.vm := by rw [hs']; rfl
  have hhp : s'.heap = H := by rw [hs']; exact hT
  have hW0 : s.WarmedH s'.vm := by rw [hvm]; exact State.WarmedH.refl s
  have hWg : ∀ w ∈ WA, w.before args s' = true := fun w hw' => word_at hW0 (wa_good hw') (hW w hw')
  have hK' : mK D cs Z s' := hK.warm hW0
  have hTh : mTh (fA h0 s.heap.size) s' s'.heap := by rw [hhp]; exact (hZ.2.kept hR.2.2.1).moved hW0.alike
  have hat' : ∀ w ∈ Bundle.ownAtoms "NetJoins" ic (exN k) tNames, w.before args s' = true := by
    intro w hw'
    rcases hat w hw' with ⟨g1, g2⟩ | g
    · exact hWg w (List.mem_filter.mpr ⟨List.mem_append_right _ g1, g2⟩)
    · simp only [tBad, List.mem_cons, List.not_mem_nil, or_false] at g
      rcases g with rfl | rfl | rfl | rfl | rfl | rfl | rfl | rfl
      · exact va_Nw.use rfl (hK'.2.2.2.2.2.1 _ hcast)
      · exact va_Nw.use rfl (hK'.2.2.2.2.2.2.2.1 _ (by simp [declP]))
      · exact va_Nw.use rfl (hK'.2.2.2.2.2.2.2.1 _ (by simp [declP]))
      · exact va_Nw.use rfl (hK'.2.2.2.2.2.2.2.1 _ (by simp [declP]))
      · exact hTh.1.2.word
      · exact hTh.2.2.word
      · exact t_isRef hTh.1.1
      · exact t_isRef hTh.2.1
  have hown' : s'.vm.findClass "NetJoins" = some m.cls := by rw [hvm]; exact hown
  have hins : (Cond.instantiable (exN k) 6).before args s' = true := hat' _ (by simp [Bundle.ownAtoms])
  obtain ⟨vm₁, cX, kX, hfX, hkX, -, -, X₁, st1⟩ := Y.newCold hx (own := "NetJoins") (C := exN k) (index := ik) (n := 6) hown' (hWg _ hk) hins (hWg _ hini) (g := F0 m pc ls rest) rfl (by rw [hb]; exact d0) (Nat.le_refl _) (Nat.le_refl _)
  generalize hT1 : (T.setVm vm₁).pushCell { cls := cX, slots := kX.instanceTypes.map defaultValue, vm := .none } = T1 at X₁ st1
  have hcellA : T1.heap[T.heap.size]? = some (freshCell cX kX) := by rw [← hT1]; exact State.heap_pushCell_size _ _
  have d3' : decode c.code (pc + 3) = .ok (.dup, 1) := by rw [hb]; exact d3
  obtain ⟨U, hsteps, hrun, hend, hWU, hsame, ce, hce, hO⟩ := X₁.ctorThrowS hx htr (own := "NetJoins") (cls := exN k) (names := tNames) (ic := ic) hown' hfit (by decide) hat' (fun x hx => nomatch hx) hfX hkX hcellA (by rw [hhp, hT]; exact Nat.le_refl _) (msg := .ref (Z is)) rfl
    (g := F0 m (pc + 4 + n4) ls (.ref (Z is) :: .ref T.heap.size :: .ref T.heap.size :: rest)) rfl hml rfl rfl (rest := rest) rfl (by rw [hb]; exact d6) (by rw [hb]; exact d9)
    (fun x hx => by
      have z0 : c.exceptionTable = #[] := by simpa [Array.isEmpty_iff] using hno
      rw [z0] at hx
      cases hx) (by show 2 + 3 < R.frames; omega) (by simp only [List.map_cons, List.sum_cons, show (Value.ref T.heap.size).category = 1 from rfl]; show 2 * 0 + _ + (13 * 3 + 42) ≤ R.locals; omega) hlocks
  have hWs : s.WarmedH U.vm := State.WarmedH.trans hW0 hWU
  have keep : H.size ≤ U.heap.size ∧ ∀ q : Nat, q < H.size → U.heap[q]? = H[q]? := by
    obtain ⟨-, g2, -, -, -, g6⟩ := id hsame
    refine ⟨by rw [hhp] at g2; exact g2, fun q hq => ?_⟩
    have hq' : q < s'.heap.size := by rw [hhp]; exact hq
    obtain ⟨c9, k1, k2, k3, k4⟩ := g6 q _ (Array.getElem?_eq_getElem hq')
    have k0 : U.heap[q]? = some c9 := k1
    have e0 : H[q]? = some (s'.heap[q]) := by rw [← hhp]; exact Array.getElem?_eq_getElem hq'
    rw [k0, e0]
    have hsl : c9.slots = (s'.heap[q]).slots := Array.ext_getElem? fun i => k4 i (fun hm => nomatch hm)
    rw [hsl] at k2
    rw [k2]
  have hall : s.sameButNew ({ U with vm := s.vm } : State) locs mc ms := by
    subst hs'
    obtain ⟨e1, e2⟩ := hsame
    rw [State.setFrames_setFrames] at e1
    have q2 : (T.setVm s.vm).sameButNew ({ U with vm := s.vm } : State) [] (0 + 1) (0 + 6) := ⟨e1, e2⟩
    have q3 := X.same.trans q2
    rw [List.append_nil] at q3
    exact q3.mono hc hs
  refine ⟨U, ?_, .threw T.heap.size, hrun, hend, Or.inr ⟨T.heap.size, rfl, k, h, ce, locs, hw, ?_, ?_, ⟨hce, hO.vm, by have h9 := hO.cls; rw [hvm] at h9; exact h9⟩, hWs, hall, hR.2.2.2⟩⟩
  · refine st1 _ ?_
    show Steps p.tables e below (T1.setTop (F0 m (pc + 3) ls (.ref T.heap.size :: rest))) _
    jvm_step X₁.here [X₁.here.top, hx, d3', Value.category]
    exact t_ldc X₁ hx hown' (hK'.2.2.2.2.2.2.2.2 _ hst) (g := F0 m (pc + 4) ls (.ref T.heap.size :: .ref T.heap.size :: rest)) rfl (by rw [hb]; exact d4) _ hsteps
  · show mP D cs _ h U.heap
    obtain ⟨L, hL, hP, hD⟩ := hR.1
    exact ⟨L, hL, hP.kept (fun k9 q9 hk9 => keep.2 q9.1 ((hP k9 q9 hk9).lt)), hD⟩
  · exact ⟨Nat.le_trans hR.2.1 keep.1, fun q h1 h2 => (keep.2 q (Nat.lt_of_lt_of_le h1 hR.2.1)).trans (hR.2.2.1 q h1 h2)⟩
end MXU
end
section
section MXV
variable {p : Program} {l : Launch} {e : Env} {R : Room} {s : State} {m : MethodId} {args : Array Value} {below : List Frame} {meth : Method} {c : Code} {H : Heap} {locs : List Loc} {cells slots : Nat} {Q : State → Prop}
variable {cc : ByteArray} {pc : Nat} {ls : Array Slot} {rest : List Value} {D : va_G} {cs : CS} {Z : Nat → Nat} {h h0 : HS} {px : Nat → HS → Prop} {Qc : Array Value → State → Outcome → State → Prop} {mc ms sz : Nat}
/-- a call of what may throw, from the frame g: it comes back, or throws -/
theorem t_back {y : MethodName} {bytes : ByteArray} {maxL : Nat} {ret : Option FieldType} {rm : Room} {Pc : Array Value → State → Prop} {a : Array Value} {mk : MethodId} {ig : Instr} {T : State} {g : JFrame}
    (hM : TMet l y (Cond.code y bytes maxL ret :: WA) rm D cs Pc Qc px h sz mc ms) (hbl : FrameBlind Pc) (hW : ∀ w ∈ WA, w.before args s = true) (hcode : Cond.code y bytes maxL ret ∈ WA) (hini : Cond.initialized y.cls ∈ WA) (hrc : rm.cells = mc) (hrs : rm.slots = ms) (hRR : rm.frames + 1 ≤ R.frames ∧ 8 + (maxL + 11) + rm.locals ≤ R.locals)
    (X : Stand p l e R s m args below meth c T locs cells slots) (hg : g.method = m) (hsize : g.locals.size = c.maxLocals) (hdg : decode c.code g.pc = .ok (ig, 3)) (hw8 : 2 * g.monitorRoom + (g.stack.map fun v => v.category).sum ≤ 8) (hn : T.methodNamed? y = some mk) (hp : Pc a T) (hf : cells + mc ≤ R.cells ∧ slots + ms ≤ R.slots) :
    (∃ (v : Option Value) (t T' : State) (L : List Loc), Stand p l e R s m args below meth c T' (locs ++ L) (cells + mc) (slots + ms) ∧ (∀ z ∈ L, fA h sz z.base) ∧ T'.heap = t.heap ∧ Qc a (T.calling g mk a) (.returned v) t ∧ Steps p.tables e below (doInvoke e (T.setTop g) [] mk a).1 (T'.setTop { g with pc := g.pc + 3, stack := v.toList ++ g.stack })) ∨
    (∃ (q : Addr) (t T' : State) (L : List Loc) (k : Nat) (u : HS) (ce : Cell), Stand p l e R s m args below meth c T' (locs ++ L) (cells + mc) (slots + ms) ∧ (∀ z ∈ L, fA h sz z.base) ∧ T'.heap = t.heap ∧ px k u ∧ mB D cs h sz u t ∧ va_F (fA h sz) (T.calling g mk a) t ∧ (t.heap[q]? = some ce ∧ ce.vm = .none ∧ s.vm.findClass (exN k) = some ce.cls) ∧ Steps p.tables e below (doInvoke e (T.setTop g) [] mk a).1 ((T'.setTop g).pushFrame (.throwing q))) := by
  have hws : ∀ w ∈ WA, w.before a T = true := fun w hw => word_at X.warmed (wa_good hw) (hW w hw)
  have h1 : (headSpec (Cond.code y bytes maxL ret :: WA) rm).pre.before a T = true := atoms_intro fun w hw => (List.mem_cons.mp hw).elim (fun z => by rw [z]; exact hws _ hcode) (hws w)
  obtain ⟨methY, cY, hmY, hcY, -, hlY, -, -, -, -⟩ := Cond.code_spec hn (hws _ hcode)
  obtain ⟨kY, hkY, -⟩ := className_of_methodNamed hn
  have hiY : kY.init = .initialized := Cond.initialized_spec (findClass_of_methodNamed hn) hkY (hws _ hini)
  have hAt : At T g.method c below := by rw [hg]; exact X.here
  have hlo : 2 * g.monitorRoom + (g.stack.map fun v => v.category).sum + (cY.maxLocals + 11) + (headSpec (Cond.code y bytes maxL ret :: WA) rm).room.locals ≤ R.locals := by
    have := hRR.2
    show _ + _ + rm.locals ≤ R.locals
    rw [hlY]; omega
  have happ := Spec.appliesLoose_calling (S := headSpec (Cond.code y bytes maxL ret :: WA) rm) (x := y) (g := g) hAt hdg hn hkY hiY (X.room_calling (g := g) (R' := (headSpec (Cond.code y bytes maxL ret :: WA) rm).room) hsize hmY hcY hRR.1 hlo (by show cells + rm.cells ≤ _; rw [hrc]; exact hf.1) (by show slots + rm.slots ≤ _; rw [hrs]; exact hf.2)) h1
  obtain ⟨mid, hmid⟩ := hAt.above
  have hfr : (T.setTop g).frames = (.java g :: mid) ++ below := by rw [State.frames_setTop' g hAt.top, hmid]; rfl
  obtain ⟨o, s₂, hsteps, -, hend, hq⟩ := Steps.callFree hM p X.admits X.cas X.clock (acts := []) hfr happ (hbl _ _ g mk hp) trivial
  rw [State.frames_setTop' g hAt.top, X.tail] at hend
  have hq' : tQ D cs Qc px h sz mc ms a (T.calling g mk a) o s₂ := hq
  rcases hq' with ⟨hqc, L, hfe, hL⟩ | ⟨q, rfl, k, u, ce, L, g1, g2, g3, ⟨g4, g5, g6⟩, g7, g8, g9⟩
  · obtain ⟨⟨v, rfl⟩, hW₂, hsm⟩ := id hfe
    obtain ⟨T', X', -, -, e1⟩ := X.outOf hg hdg hend hW₂ hsm
    refine Or.inl ⟨v, s₂, T', L, X', hL, ?_, hqc, ?_⟩
    · rw [e1]; rfl
    · rw [← e1]; exact hsteps
  · obtain ⟨T', X', -, -, e1⟩ := X.outOfThrown hg hend g7 g8
    refine Or.inr ⟨q, s₂, T', L, k, u, ce, X', g9, ?_, g1, g2, g3, ⟨g4, g5, ?_⟩, ?_⟩
    · rw [e1]; rfl
    · have z : T.vm.findClass (exN k) = some ce.cls := g6
      rw [X.warmed.alike.findClass] at z
      exact z
    · rw [← e1]; exact hsteps
/-- what is behind a call, one way or the other -/
theorem t_after {A : Nat → Prop} {H1 : Heap} {L : List Loc} {u : HS} {st t : State} (hR : mR D cs A h s.heap H locs) (hA : ∀ q, s.heap.size ≤ q → A q) (hst : st.heap = H) (hB : mB D cs h H.size u t) (hF : va_F (fA h H.size) st t) (hL : ∀ z ∈ L, fA h H.size z.base) (ht : H1 = t.heap) : mR D cs A u s.heap H1 (locs ++ L) := by
  subst ht
  have hB' : mP D cs (fA h H.size) u t.heap := hB
  refine ⟨hB'.weaken (fun q _ hq => fA_in hR hA q hq), Nat.le_trans hR.2.1 (by rw [← hst]; exact hF.1), fun q h1 h2 => ?_, fun z hz => ?_⟩
  · have e1 := hF.2 q (by rw [hst]; exact Nat.lt_of_lt_of_le h1 hR.2.1) (fun w => h2 (fA_in hR hA q w))
    rw [e1, hst]
    exact hR.2.2.1 q h1 h2
  · rcases List.mem_append.mp hz with w | w
    · exact hR.2.2.2 z w
    · exact fA_in hR hA _ (hL z w)
variable {A : Nat → Prop}
/-- a call of an instance method that answers nothing and may throw, to be caught by nobody here -/
theorem mx_tcallV {y : MethodName} {bytes : ByteArray} {maxL n index nL b ci N : Nat} {own : String} {Tt : u_T} {rm : Room} {post : HS → Prop} {As st0 : List Value} {mc' ms' : Nat} (hx : p.tables.exec = Jvm.exec) (hb : c.code = cc) (hml : c.maxLocals = nL) (hown : s.vm.findClass own = some m.cls) (hW : ∀ w ∈ WA, w.before args s = true) (hK : mK D cs Z s) (hZ : mZ Z (fA h0 s.heap.size) s s.heap) (hlocks : meth.locks = false) (hno : c.exceptionTable.isEmpty = true) (hR : mR D cs (fA h0 s.heap.size) h s.heap H locs) (hA : ∀ q, s.heap.size ≤ q → fA h0 s.heap.size q)
    (hy : vOK y bytes maxL none n) (hlink : Cond.methodLink own index y ∈ WA) (hM : TMet l y (Cond.code y bytes maxL none :: WA) rm D cs (mPc D cs Z h H.size (.ref b :: As)) (va_Qv post (mB D cs h H.size) (fA h H.size)) px h H.size mc' ms') (hrc : rm.cells = mc') (hrs : rm.slots = ms') (hRR : rm.frames + 1 ≤ R.frames ∧ 8 + (maxL + 11) + rm.locals ≤ R.locals)
    (hc : vcl[ci]? = some (y.cls, Tt, N)) (htb : gT h b = 16 + ci) (hn : As.length = n) (hsize : ls.size = nL) (hst0 : st0 = As.reverse ++ .ref b :: rest) (hw8 : (rest.map fun v => v.category).sum ≤ 8) (hdg : decode cc pc = .ok (.invokevirtual index, 3)) (hf : cells + mc' ≤ R.cells ∧ slots + ms' ≤ R.slots) (hmc : cells + mc' ≤ mc ∧ slots + ms' ≤ ms)
    (kk : ∀ (u : HS) (H1 : Heap) (locs1 : List Loc), post u → mR D cs (fA h0 s.heap.size) u s.heap H1 locs1 → W p l e R s m args below meth c H1 locs1 (cells + mc') (slots + ms') (tMQ D cs below Qc px h0 s.heap.size args s mc ms) (F0 m (pc + 3) ls rest)) : W p l e R s m args below meth c H locs cells slots (tMQ D cs below Qc px h0 s.heap.size args s mc ms) (F0 m pc ls st0) := by
  subst hst0
  intro T hT X
  obtain ⟨-, ⟨cellB, hcB, hoB, hclB⟩, hPre⟩ := mx_preV (As := As) hK hZ hA hR hc htb
  obtain ⟨mk, methM, hnamed, hmethM, hstM, habM⟩ := Cond.instanceMethod_spec (hW _ hy.2.1)
  obtain ⟨methM', cM, hmethM', -, -, -, -, -, -, hsigM⟩ := Cond.code_spec hnamed (hW _ hy.1)
  cases hmethM.symm.trans hmethM'
  obtain ⟨c2, r2, m2, q1, q2, q3, q4, kP, hkP, hkPi⟩ := Cond.selects_spec (hW _ hy.2.2.1)
  cases hclB.symm.trans q1
  have hyn := hy.2.2.2.2
  cases (State.methodFound?_of_named hnamed ⟨hyn.1, hyn.2.1⟩).symm.trans q2
  cases hnamed.symm.trans q3
  have hselP : selectMethod e.platform s.vm cellB.cls mk = .method mk := by rw [Launch.admits_selectMethod X.admits]; exact q4
  have hlen : ∀ sig, parseMethodDescriptor y.desc = some sig → As.length = sig.parameters.length := fun sig hs => by
    have := hyn.2.2
    rw [hs] at this
    rw [hn]; exact (Option.some.inj this).symm
  obtain ⟨vm₁, X₁, hstep₁⟩ := X.invokevirtual hx hown (hW _ hlink) hnamed hmethM hstM hkP hkPi ⟨hyn.1, hyn.2.1⟩ (a := b) (cell := cellB) (by rw [hT]; exact hcB)
    (fun z hz => by rw [hz] at hoB; cases hoB) hselP hmethM habM hkP hkPi (g := F0 m pc ls (As.reverse ++ .ref b :: rest)) rfl (argsL := As) (rest := rest) (hlen _ hsigM) rfl (by rw [hb]; exact hdg)
  have hPc := hPre (T.setVm vm₁) hT X₁.warmed
  rcases t_back (a := (Value.ref b :: As).toArray) (g := F0 m pc ls rest) (ig := .invokevirtual index) hM mx_blind hW hy.1 hy.2.2.2.1 hrc hrs hRR X₁ rfl (hsize.trans hml.symm) (by rw [hb]; exact hdg) (lv_room hw8) (X₁.named hnamed) hPc hf with ⟨v, t, T', L, X', hL, e1, ⟨⟨u, e2, hw, hB⟩, hF⟩, hsteps⟩ | ⟨q, t, T', L, k, u, ce, X', hL, e1, hw, hB, hF, ⟨g4, g5, g6⟩, hsteps⟩
  · cases e2
    obtain ⟨t2, a1, b1⟩ := kk u T'.heap (locs ++ L) hw (t_after hR hA hT hB hF hL e1) T' rfl X'
    refine ⟨t2, hstep₁ _ fun acts => ?_, b1⟩
    rw [doInvoke_state]
    exact hsteps.trans a1
  · have hR1 := t_after hR hA hT hB hF hL e1
    obtain ⟨t2, a1, b1⟩ := t_out (pc := pc) (ls := ls) (rest := rest) (below := below) (p := p) (l := l) (e := e) (R := R) (args := args) (Qc := Qc) (cells := cells + mc') (slots := slots + ms') (H := T'.heap) hno hlocks (by rw [e1]; exact g4) g5 g6 hR1 hw hmc.1 hmc.2 T' rfl X'
    refine ⟨t2, hstep₁ _ fun acts => ?_, b1⟩
    rw [doInvoke_state]
    exact hsteps.trans a1
/-- the same of a static method -/
theorem mx_tcallS {y : MethodName} {bytes : ByteArray} {maxL n index nL : Nat} {own : String} {rm : Room} {post : HS → Prop} {As st0 : List Value} {mc' ms' : Nat} (hx : p.tables.exec = Jvm.exec) (hb : c.code = cc) (hml : c.maxLocals = nL) (hown : s.vm.findClass own = some m.cls) (hW : ∀ w ∈ WA, w.before args s = true) (hK : mK D cs Z s) (hZ : mZ Z (fA h0 s.heap.size) s s.heap) (hlocks : meth.locks = false) (hno : c.exceptionTable.isEmpty = true) (hR : mR D cs (fA h0 s.heap.size) h s.heap H locs) (hA : ∀ q, s.heap.size ≤ q → fA h0 s.heap.size q)
    (hy : sOK y bytes maxL none n) (hlink : Cond.methodLink own index y ∈ WA) (hM : TMet l y (Cond.code y bytes maxL none :: WA) rm D cs (mPc D cs Z h H.size As) (va_Qv post (mB D cs h H.size) (fA h H.size)) px h H.size mc' ms') (hrc : rm.cells = mc') (hrs : rm.slots = ms') (hRR : rm.frames + 1 ≤ R.frames ∧ 8 + (maxL + 11) + rm.locals ≤ R.locals)
    (hn : As.length = n) (hsize : ls.size = nL) (hst0 : st0 = As.reverse ++ rest) (hw8 : (rest.map fun v => v.category).sum ≤ 8) (hdg : decode cc pc = .ok (.invokestatic index, 3)) (hf : cells + mc' ≤ R.cells ∧ slots + ms' ≤ R.slots) (hmc : cells + mc' ≤ mc ∧ slots + ms' ≤ ms)
    (kk : ∀ (u : HS) (H1 : Heap) (locs1 : List Loc), post u → mR D cs (fA h0 s.heap.size) u s.heap H1 locs1 → W p l e R s m args below meth c H1 locs1 (cells + mc') (slots + ms') (tMQ D cs below Qc px h0 s.heap.size args s mc ms) (F0 m (pc + 3) ls rest)) : W p l e R s m args below meth c H locs cells slots (tMQ D cs below Qc px h0 s.heap.size args s mc ms) (F0 m pc ls st0) := by
  subst hst0
  intro T hT X
  have hPre := mx_pre (As := As) hK hZ hA hR
  obtain ⟨mk, hnamed⟩ := Cond.code_named (hW _ hy.1)
  obtain ⟨methM, cM, hmethM, -, -, -, -, -, -, hsigM⟩ := Cond.code_spec hnamed (hW _ hy.1)
  have hstatic : methM.isStatic = true := Cond.static_spec hnamed hmethM (hW _ hy.2.1)
  obtain ⟨kP, hkP, -⟩ := className_of_methodNamed hnamed
  have hinitP : kP.init = .initialized := Cond.initialized_spec (findClass_of_methodNamed hnamed) hkP (hW _ hy.2.2.1)
  have hyn := hy.2.2.2
  have hlen : ∀ sig, parseMethodDescriptor y.desc = some sig → As.length = sig.parameters.length := fun sig hs => by
    have := hyn.2.2
    rw [hs] at this
    rw [hn]; exact (Option.some.inj this).symm
  obtain ⟨vm₁, X₁, hstep₁⟩ := X.invokestatic hx hown (hW _ hlink) hnamed hmethM hstatic hkP hinitP ⟨hyn.1, hyn.2.1⟩ (g := F0 m pc ls (As.reverse ++ rest)) rfl (argsL := As) (rest := rest) (hlen _ hsigM) rfl (by rw [hb]; exact hdg)
  have hPc := hPre (T.setVm vm₁) hT X₁.warmed
  rcases t_back (a := As.toArray) (g := F0 m pc ls rest) (ig := .invokestatic index) hM mx_blind hW hy.1 hy.2.2.1 hrc hrs hRR X₁ rfl (hsize.trans hml.symm) (by rw [hb]; exact hdg) (lv_room hw8) (X₁.named hnamed) hPc hf with ⟨v, t, T', L, X', hL, e1, ⟨⟨u, e2, hw, hB⟩, hF⟩, hsteps⟩ | ⟨q, t, T', L, k, u, ce, X', hL, e1, hw, hB, hF, ⟨g4, g5, g6⟩, hsteps⟩
  · cases e2
    obtain ⟨t2, a1, b1⟩ := kk u T'.heap (locs ++ L) hw (t_after hR hA hT hB hF hL e1) T' rfl X'
    refine ⟨t2, hstep₁ _ fun acts => ?_, b1⟩
    rw [doInvoke_state]
    exact hsteps.trans a1
  · have hR1 := t_after hR hA hT hB hF hL e1
    obtain ⟨t2, a1, b1⟩ := t_out (pc := pc) (ls := ls) (rest := rest) (below := below) (p := p) (l := l) (e := e) (R := R) (args := args) (Qc := Qc) (cells := cells + mc') (slots := slots + ms') (H := T'.heap) hno hlocks (by rw [e1]; exact g4) g5 g6 hR1 hw hmc.1 hmc.2 T' rfl X'
    refine ⟨t2, hstep₁ _ fun acts => ?_, b1⟩
    rw [doInvoke_state]
    exact hsteps.trans a1
end MXV
/-- what a walk of a method that may throw stands on -/
def tC (D : va_G) (cs : CS) (Z : Nat → Nat) (h0 : HS) (y : MethodName) (cc : ByteArray) (maxL : Nat) (ret : Option FieldType) (l : Launch) (p : Program) (s : State) (m : MethodId) (args : Array Value) (meth : Method) (c : Code) : Prop :=
  mC D cs Z h0 y cc maxL ret p s m args meth c ∧ c.exceptionTable.isEmpty = true ∧ l.stackTraces = false
theorem mx_tmet {l : Launch} {y : MethodName} {cc : ByteArray} {maxL : Nat} {ret : Option FieldType} {rm : Room} {D : va_G} {cs : CS} {Z : Nat → Nat} {h : HS} {sz mc ms : Nat} {As : List Value} {px : Nat → HS → Prop} (Qf : Nat → Array Value → State → Outcome → State → Prop) (hy : plainName y.cls = true) (hlT : l.stackTraces = false) (hAs : (lg_sl As).length ≤ maxL)
    (body : ∀ (p : Program) (e : Env) (s : State) (m : MethodId) (args : Array Value) (below : List Frame) (meth : Method) (c : Code), tC D cs Z h y cc maxL ret l p s m args meth c → mR D cs (fA h s.heap.size) h s.heap s.heap [] → ∀ ls : Array Slot, lv_has ls maxL (lv_args 0 As) → W p l e rm s m args below meth c s.heap [] 0 0 (tMQ D cs below (Qf s.heap.size) px h s.heap.size args s mc ms) (F0 m 0 ls [])) :
    TMet l y (Cond.code y cc maxL ret :: WA) rm D cs (mPc D cs Z h sz As) (Qf sz) px h sz mc ms := by
  refine MetFree.of_bodyS (code := cc) (maxLocals := maxL) (ret := ret) hy ?_ ?_
  · intro args s m hh hn
    obtain ⟨meth, c, h1, h2, h3, h4, h5, h6, -, -⟩ := Cond.code_spec hn (atoms_spec (ws := Cond.code y cc maxL ret :: WA) hh _ List.mem_cons_self)
    exact ⟨meth, c, h1, h2, h3, h4, h5, h6⟩
  · intro p e s m args below meth c s₁ B hml hv _
    obtain ⟨rfl, hsz, hP, hK, hZ⟩ := hv
    subst hsz
    have hts := atoms_spec (ws := Cond.code y cc maxL ret :: WA) B.pre
    have hl := lv_entry As (n := maxL) hAs
    have hh0 : s₁.heap = s.heap := by rw [B.state]; rfl
    have K := body p e s m As.toArray below meth c ⟨⟨B.exec, B.bytes, B.returns, hml, findClass_of_methodNamed B.named, fun w hw => hts w (List.mem_cons_of_mem _ hw), B.notSynchronized, (name_of_methodNamed B.named B.method).1, hK, hZ⟩, BodyLoose.noHandlers B (hts _ List.mem_cons_self), hlT⟩ ⟨hP.weaken (fun q hq _ => Or.inl hq), va_S.rf⟩ _ hl
    rw [← lg_entry_eq] at K
    obtain ⟨t, a1, o, b1, b2, b3⟩ := K s₁ hh0 (Stand.of_body B)
    exact ⟨t, o, a1, b1, b2, b3⟩
end
