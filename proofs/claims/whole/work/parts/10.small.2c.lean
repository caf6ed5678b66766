abbrev c_Joins_node : ByteArray := prog_3_method_2_code
def y_Joins_node : MethodName := ⟨"NetJoins$Joins", "node", "(II)I"⟩
theorem ok_Joins_node : sOK y_Joins_node c_Joins_node 2 (some .int) 2 := ⟨kw_79, kw_78, kw_5, by decide +kernel⟩
theorem d_Joins_node_0 : decode c_Joins_node 0 = .ok (.iload_n 0, 1) := by decide +kernel
theorem d_Joins_node_1 : decode c_Joins_node 1 = .ok (.bipush 11, 2) := by decide +kernel
theorem d_Joins_node_3 : decode c_Joins_node 3 = .ok (.ishl, 1) := by decide +kernel
theorem d_Joins_node_4 : decode c_Joins_node 4 = .ok (.iload_n 1, 1) := by decide +kernel
theorem d_Joins_node_5 : decode c_Joins_node 5 = .ok (.iadd, 1) := by decide +kernel
theorem d_Joins_node_6 : decode c_Joins_node 6 = .ok (.ireturn, 1) := by decide +kernel
abbrev c_Joins_scatterRow : ByteArray := prog_3_method_5_code
def y_Joins_scatterRow : MethodName := ⟨"NetJoins$Joins", "scatterRow", "(I)V"⟩
theorem ok_Joins_scatterRow : vOK y_Joins_scatterRow c_Joins_scatterRow 4 none 1 := ⟨kw_76, kw_75, ks_0, kw_5, by decide +kernel⟩
theorem d_Joins_scatterRow_0 : decode c_Joins_scatterRow 0 = .ok (.aload_n 0, 1) := by decide +kernel
theorem d_Joins_scatterRow_1 : decode c_Joins_scatterRow 1 = .ok (.getfield 11, 3) := by decide +kernel
theorem d_Joins_scatterRow_4 : decode c_Joins_scatterRow 4 = .ok (.iload_n 1, 1) := by decide +kernel
theorem d_Joins_scatterRow_5 : decode c_Joins_scatterRow 5 = .ok (.aaload, 1) := by decide +kernel
theorem d_Joins_scatterRow_6 : decode c_Joins_scatterRow 6 = .ok (.astore_n 2, 1) := by decide +kernel
theorem d_Joins_scatterRow_7 : decode c_Joins_scatterRow 7 = .ok (.iconst 0, 1) := by decide +kernel
theorem d_Joins_scatterRow_8 : decode c_Joins_scatterRow 8 = .ok (.istore_n 3, 1) := by decide +kernel
theorem d_Joins_scatterRow_9 : decode c_Joins_scatterRow 9 = .ok (.iload_n 3, 1) := by decide +kernel
theorem d_Joins_scatterRow_10 : decode c_Joins_scatterRow 10 = .ok (.aload_n 2, 1) := by decide +kernel
theorem d_Joins_scatterRow_11 : decode c_Joins_scatterRow 11 = .ok (.arraylength, 1) := by decide +kernel
theorem d_Joins_scatterRow_12 : decode c_Joins_scatterRow 12 = .ok (.if_icmp .ge 17, 3) := by decide +kernel
theorem d_Joins_scatterRow_15 : decode c_Joins_scatterRow 15 = .ok (.aload_n 2, 1) := by decide +kernel
theorem d_Joins_scatterRow_16 : decode c_Joins_scatterRow 16 = .ok (.iload_n 3, 1) := by decide +kernel
theorem d_Joins_scatterRow_17 : decode c_Joins_scatterRow 17 = .ok (.iload_n 1, 1) := by decide +kernel
theorem d_Joins_scatterRow_18 : decode c_Joins_scatterRow 18 = .ok (.iload_n 3, 1) := by decide +kernel
theorem d_Joins_scatterRow_19 : decode c_Joins_scatterRow 19 = .ok (.invokestatic 18, 3) := by decide +kernel
theorem d_Joins_scatterRow_22 : decode c_Joins_scatterRow 22 = .ok (.iastore, 1) := by decide +kernel
theorem d_Joins_scatterRow_23 : decode c_Joins_scatterRow 23 = .ok (.iinc 3 1, 3) := by decide +kernel
theorem d_Joins_scatterRow_26 : decode c_Joins_scatterRow 26 = .ok (.goto (-17), 3) := by decide +kernel
theorem d_Joins_scatterRow_29 : decode c_Joins_scatterRow 29 = .ok (.return_, 1) := by decide +kernel
abbrev c_Joins_has : ByteArray := prog_3_method_6_code
def y_Joins_has : MethodName := ⟨"NetJoins$Joins", "has", "(I)Z"⟩
theorem ok_Joins_has : vOK y_Joins_has c_Joins_has 3 (some .boolean) 1 := ⟨kw_230, kw_229, ks_4, kw_5, by decide +kernel⟩
theorem d_Joins_has_0 : decode c_Joins_has 0 = .ok (.iload_n 1, 1) := by decide +kernel
theorem d_Joins_has_1 : decode c_Joins_has 1 = .ok (.bipush 11, 2) := by decide +kernel
theorem d_Joins_has_3 : decode c_Joins_has 3 = .ok (.ishr, 1) := by decide +kernel
theorem d_Joins_has_4 : decode c_Joins_has 4 = .ok (.istore_n 2, 1) := by decide +kernel
theorem d_Joins_has_5 : decode c_Joins_has 5 = .ok (.iload_n 2, 1) := by decide +kernel
theorem d_Joins_has_6 : decode c_Joins_has 6 = .ok (.ifCond .lt 31, 3) := by decide +kernel
theorem d_Joins_has_9 : decode c_Joins_has 9 = .ok (.iload_n 2, 1) := by decide +kernel
theorem d_Joins_has_10 : decode c_Joins_has 10 = .ok (.aload_n 0, 1) := by decide +kernel
theorem d_Joins_has_11 : decode c_Joins_has 11 = .ok (.getfield 11, 3) := by decide +kernel
theorem d_Joins_has_14 : decode c_Joins_has 14 = .ok (.arraylength, 1) := by decide +kernel
theorem d_Joins_has_15 : decode c_Joins_has 15 = .ok (.if_icmp .ge 22, 3) := by decide +kernel
theorem d_Joins_has_18 : decode c_Joins_has 18 = .ok (.iload_n 1, 1) := by decide +kernel
theorem d_Joins_has_19 : decode c_Joins_has 19 = .ok (.sipush 2047, 3) := by decide +kernel
theorem d_Joins_has_22 : decode c_Joins_has 22 = .ok (.iand, 1) := by decide +kernel
theorem d_Joins_has_23 : decode c_Joins_has 23 = .ok (.aload_n 0, 1) := by decide +kernel
theorem d_Joins_has_24 : decode c_Joins_has 24 = .ok (.getfield 11, 3) := by decide +kernel
theorem d_Joins_has_27 : decode c_Joins_has 27 = .ok (.iload_n 2, 1) := by decide +kernel
theorem d_Joins_has_28 : decode c_Joins_has 28 = .ok (.aaload, 1) := by decide +kernel
theorem d_Joins_has_29 : decode c_Joins_has 29 = .ok (.arraylength, 1) := by decide +kernel
theorem d_Joins_has_30 : decode c_Joins_has 30 = .ok (.if_icmp .ge 7, 3) := by decide +kernel
theorem d_Joins_has_33 : decode c_Joins_has 33 = .ok (.iconst 1, 1) := by decide +kernel
theorem d_Joins_has_34 : decode c_Joins_has 34 = .ok (.goto 4, 3) := by decide +kernel
theorem d_Joins_has_37 : decode c_Joins_has 37 = .ok (.iconst 0, 1) := by decide +kernel
theorem d_Joins_has_38 : decode c_Joins_has 38 = .ok (.ireturn, 1) := by decide +kernel
abbrev c_Joins_climb : ByteArray := prog_3_method_8_code
def y_Joins_climb : MethodName := ⟨"NetJoins$Joins", "climb", "(I)I"⟩
theorem ok_Joins_climb : vOK y_Joins_climb c_Joins_climb 6 (some .int) 1 := ⟨kw_234, kw_233, ks_5, kw_5, by decide +kernel⟩
theorem d_Joins_climb_0 : decode c_Joins_climb 0 = .ok (.iload_n 1, 1) := by decide +kernel
theorem d_Joins_climb_1 : decode c_Joins_climb 1 = .ok (.istore_n 2, 1) := by decide +kernel
theorem d_Joins_climb_2 : decode c_Joins_climb 2 = .ok (.iconst 0, 1) := by decide +kernel
theorem d_Joins_climb_3 : decode c_Joins_climb 3 = .ok (.istore_n 3, 1) := by decide +kernel
theorem d_Joins_climb_4 : decode c_Joins_climb 4 = .ok (.iload_n 3, 1) := by decide +kernel
theorem d_Joins_climb_5 : decode c_Joins_climb 5 = .ok (.ldc 30, 2) := by decide +kernel
theorem d_Joins_climb_7 : decode c_Joins_climb 7 = .ok (.if_icmp .ge 74, 3) := by decide +kernel
theorem d_Joins_climb_10 : decode c_Joins_climb 10 = .ok (.aload_n 0, 1) := by decide +kernel
theorem d_Joins_climb_11 : decode c_Joins_climb 11 = .ok (.getfield 11, 3) := by decide +kernel
theorem d_Joins_climb_14 : decode c_Joins_climb 14 = .ok (.iload_n 2, 1) := by decide +kernel
theorem d_Joins_climb_15 : decode c_Joins_climb 15 = .ok (.bipush 11, 2) := by decide +kernel
theorem d_Joins_climb_17 : decode c_Joins_climb 17 = .ok (.ishr, 1) := by decide +kernel
theorem d_Joins_climb_18 : decode c_Joins_climb 18 = .ok (.aaload, 1) := by decide +kernel
theorem d_Joins_climb_19 : decode c_Joins_climb 19 = .ok (.iload_n 2, 1) := by decide +kernel
theorem d_Joins_climb_20 : decode c_Joins_climb 20 = .ok (.sipush 2047, 3) := by decide +kernel
theorem d_Joins_climb_23 : decode c_Joins_climb 23 = .ok (.iand, 1) := by decide +kernel
theorem d_Joins_climb_24 : decode c_Joins_climb 24 = .ok (.iaload, 1) := by decide +kernel
theorem d_Joins_climb_25 : decode c_Joins_climb 25 = .ok (.istore 4, 2) := by decide +kernel
theorem d_Joins_climb_27 : decode c_Joins_climb 27 = .ok (.iload 4, 2) := by decide +kernel
theorem d_Joins_climb_29 : decode c_Joins_climb 29 = .ok (.iload_n 2, 1) := by decide +kernel
theorem d_Joins_climb_30 : decode c_Joins_climb 30 = .ok (.if_icmp .ne 6, 3) := by decide +kernel
theorem d_Joins_climb_33 : decode c_Joins_climb 33 = .ok (.goto 48, 3) := by decide +kernel
theorem d_Joins_climb_36 : decode c_Joins_climb 36 = .ok (.aload_n 0, 1) := by decide +kernel
theorem d_Joins_climb_37 : decode c_Joins_climb 37 = .ok (.getfield 11, 3) := by decide +kernel
theorem d_Joins_climb_40 : decode c_Joins_climb 40 = .ok (.iload 4, 2) := by decide +kernel
theorem d_Joins_climb_42 : decode c_Joins_climb 42 = .ok (.bipush 11, 2) := by decide +kernel
theorem d_Joins_climb_44 : decode c_Joins_climb 44 = .ok (.ishr, 1) := by decide +kernel
theorem d_Joins_climb_45 : decode c_Joins_climb 45 = .ok (.aaload, 1) := by decide +kernel
theorem d_Joins_climb_46 : decode c_Joins_climb 46 = .ok (.iload 4, 2) := by decide +kernel
theorem d_Joins_climb_48 : decode c_Joins_climb 48 = .ok (.sipush 2047, 3) := by decide +kernel
theorem d_Joins_climb_51 : decode c_Joins_climb 51 = .ok (.iand, 1) := by decide +kernel
theorem d_Joins_climb_52 : decode c_Joins_climb 52 = .ok (.iaload, 1) := by decide +kernel
theorem d_Joins_climb_53 : decode c_Joins_climb 53 = .ok (.istore 5, 2) := by decide +kernel
theorem d_Joins_climb_55 : decode c_Joins_climb 55 = .ok (.aload_n 0, 1) := by decide +kernel
theorem d_Joins_climb_56 : decode c_Joins_climb 56 = .ok (.getfield 11, 3) := by decide +kernel
theorem d_Joins_climb_59 : decode c_Joins_climb 59 = .ok (.iload_n 2, 1) := by decide +kernel
theorem d_Joins_climb_60 : decode c_Joins_climb 60 = .ok (.bipush 11, 2) := by decide +kernel
theorem d_Joins_climb_62 : decode c_Joins_climb 62 = .ok (.ishr, 1) := by decide +kernel
theorem d_Joins_climb_63 : decode c_Joins_climb 63 = .ok (.aaload, 1) := by decide +kernel
theorem d_Joins_climb_64 : decode c_Joins_climb 64 = .ok (.iload_n 2, 1) := by decide +kernel
theorem d_Joins_climb_65 : decode c_Joins_climb 65 = .ok (.sipush 2047, 3) := by decide +kernel
theorem d_Joins_climb_68 : decode c_Joins_climb 68 = .ok (.iand, 1) := by decide +kernel
theorem d_Joins_climb_69 : decode c_Joins_climb 69 = .ok (.iload 5, 2) := by decide +kernel
theorem d_Joins_climb_71 : decode c_Joins_climb 71 = .ok (.iastore, 1) := by decide +kernel
theorem d_Joins_climb_72 : decode c_Joins_climb 72 = .ok (.iload 5, 2) := by decide +kernel
theorem d_Joins_climb_74 : decode c_Joins_climb 74 = .ok (.istore_n 2, 1) := by decide +kernel
theorem d_Joins_climb_75 : decode c_Joins_climb 75 = .ok (.iinc 3 1, 3) := by decide +kernel
theorem d_Joins_climb_78 : decode c_Joins_climb 78 = .ok (.goto (-74), 3) := by decide +kernel
theorem d_Joins_climb_81 : decode c_Joins_climb 81 = .ok (.iload_n 2, 1) := by decide +kernel
theorem d_Joins_climb_82 : decode c_Joins_climb 82 = .ok (.ireturn, 1) := by decide +kernel
abbrev c_Joins_root : ByteArray := prog_3_method_7_code
def y_Joins_root : MethodName := ⟨"NetJoins$Joins", "root", "(I)I"⟩
theorem ok_Joins_root : vOK y_Joins_root c_Joins_root 2 (some .int) 1 := ⟨kw_226, kw_224, kw_225, kw_5, by decide +kernel⟩
theorem d_Joins_root_0 : decode c_Joins_root 0 = .ok (.aload_n 0, 1) := by decide +kernel
theorem d_Joins_root_1 : decode c_Joins_root 1 = .ok (.iload_n 1, 1) := by decide +kernel
theorem d_Joins_root_2 : decode c_Joins_root 2 = .ok (.invokevirtual 22, 3) := by decide +kernel
theorem d_Joins_root_5 : decode c_Joins_root 5 = .ok (.ifCond .eq 11, 3) := by decide +kernel
theorem d_Joins_root_8 : decode c_Joins_root 8 = .ok (.aload_n 0, 1) := by decide +kernel
theorem d_Joins_root_9 : decode c_Joins_root 9 = .ok (.iload_n 1, 1) := by decide +kernel
theorem d_Joins_root_10 : decode c_Joins_root 10 = .ok (.invokevirtual 26, 3) := by decide +kernel
theorem d_Joins_root_13 : decode c_Joins_root 13 = .ok (.goto 4, 3) := by decide +kernel
theorem d_Joins_root_16 : decode c_Joins_root 16 = .ok (.iload_n 1, 1) := by decide +kernel
theorem d_Joins_root_17 : decode c_Joins_root 17 = .ok (.ireturn, 1) := by decide +kernel
abbrev c_Joins_join : ByteArray := prog_3_method_9_code
def y_Joins_join : MethodName := ⟨"NetJoins$Joins", "join", "(II)V"⟩
theorem ok_Joins_join : vOK y_Joins_join c_Joins_join 7 none 2 := ⟨kw_329, kw_327, kw_328, kw_5, by decide +kernel⟩
theorem d_Joins_join_0 : decode c_Joins_join 0 = .ok (.aload_n 0, 1) := by decide +kernel
theorem d_Joins_join_1 : decode c_Joins_join 1 = .ok (.iload_n 1, 1) := by decide +kernel
theorem d_Joins_join_2 : decode c_Joins_join 2 = .ok (.invokevirtual 22, 3) := by decide +kernel
theorem d_Joins_join_5 : decode c_Joins_join 5 = .ok (.ifCond .eq 11, 3) := by decide +kernel
theorem d_Joins_join_8 : decode c_Joins_join 8 = .ok (.aload_n 0, 1) := by decide +kernel
theorem d_Joins_join_9 : decode c_Joins_join 9 = .ok (.iload_n 2, 1) := by decide +kernel
theorem d_Joins_join_10 : decode c_Joins_join 10 = .ok (.invokevirtual 22, 3) := by decide +kernel
theorem d_Joins_join_13 : decode c_Joins_join 13 = .ok (.ifCond .ne 4, 3) := by decide +kernel
theorem d_Joins_join_16 : decode c_Joins_join 16 = .ok (.return_, 1) := by decide +kernel
theorem d_Joins_join_17 : decode c_Joins_join 17 = .ok (.aload_n 0, 1) := by decide +kernel
theorem d_Joins_join_18 : decode c_Joins_join 18 = .ok (.iload_n 1, 1) := by decide +kernel
theorem d_Joins_join_19 : decode c_Joins_join 19 = .ok (.invokevirtual 26, 3) := by decide +kernel
theorem d_Joins_join_22 : decode c_Joins_join 22 = .ok (.istore_n 3, 1) := by decide +kernel
theorem d_Joins_join_23 : decode c_Joins_join 23 = .ok (.aload_n 0, 1) := by decide +kernel
theorem d_Joins_join_24 : decode c_Joins_join 24 = .ok (.iload_n 2, 1) := by decide +kernel
theorem d_Joins_join_25 : decode c_Joins_join 25 = .ok (.invokevirtual 26, 3) := by decide +kernel
theorem d_Joins_join_28 : decode c_Joins_join 28 = .ok (.istore 4, 2) := by decide +kernel
theorem d_Joins_join_30 : decode c_Joins_join 30 = .ok (.iload_n 3, 1) := by decide +kernel
theorem d_Joins_join_31 : decode c_Joins_join 31 = .ok (.iload 4, 2) := by decide +kernel
theorem d_Joins_join_33 : decode c_Joins_join 33 = .ok (.invokestatic 31, 3) := by decide +kernel
theorem d_Joins_join_36 : decode c_Joins_join 36 = .ok (.istore 5, 2) := by decide +kernel
theorem d_Joins_join_38 : decode c_Joins_join 38 = .ok (.iload_n 3, 1) := by decide +kernel
theorem d_Joins_join_39 : decode c_Joins_join 39 = .ok (.iload 4, 2) := by decide +kernel
theorem d_Joins_join_41 : decode c_Joins_join 41 = .ok (.invokestatic 36, 3) := by decide +kernel
theorem d_Joins_join_44 : decode c_Joins_join 44 = .ok (.istore 6, 2) := by decide +kernel
theorem d_Joins_join_46 : decode c_Joins_join 46 = .ok (.aload_n 0, 1) := by decide +kernel
theorem d_Joins_join_47 : decode c_Joins_join 47 = .ok (.getfield 11, 3) := by decide +kernel
theorem d_Joins_join_50 : decode c_Joins_join 50 = .ok (.iload 6, 2) := by decide +kernel
theorem d_Joins_join_52 : decode c_Joins_join 52 = .ok (.bipush 11, 2) := by decide +kernel
theorem d_Joins_join_54 : decode c_Joins_join 54 = .ok (.ishr, 1) := by decide +kernel
theorem d_Joins_join_55 : decode c_Joins_join 55 = .ok (.aaload, 1) := by decide +kernel
theorem d_Joins_join_56 : decode c_Joins_join 56 = .ok (.iload 6, 2) := by decide +kernel
theorem d_Joins_join_58 : decode c_Joins_join 58 = .ok (.sipush 2047, 3) := by decide +kernel
theorem d_Joins_join_61 : decode c_Joins_join 61 = .ok (.iand, 1) := by decide +kernel
theorem d_Joins_join_62 : decode c_Joins_join 62 = .ok (.iload 5, 2) := by decide +kernel
theorem d_Joins_join_64 : decode c_Joins_join 64 = .ok (.iastore, 1) := by decide +kernel
theorem d_Joins_join_65 : decode c_Joins_join 65 = .ok (.return_, 1) := by decide +kernel
abbrev c_Bus_length : ByteArray := prog_2_method_2_code
def y_Bus_length : MethodName := ⟨"NetJoins$Bus", "length", "()I"⟩
theorem ok_Bus_length : vOK y_Bus_length c_Bus_length 1 (some .int) 0 := ⟨kw_376, kw_374, kw_375, kw_30, by decide +kernel⟩
theorem d_Bus_length_0 : decode c_Bus_length 0 = .ok (.aload_n 0, 1) := by decide +kernel
theorem d_Bus_length_1 : decode c_Bus_length 1 = .ok (.getfield 19, 3) := by decide +kernel
theorem d_Bus_length_4 : decode c_Bus_length 4 = .ok (.aload_n 0, 1) := by decide +kernel
theorem d_Bus_length_5 : decode c_Bus_length 5 = .ok (.getfield 16, 3) := by decide +kernel
theorem d_Bus_length_8 : decode c_Bus_length 8 = .ok (.isub, 1) := by decide +kernel
theorem d_Bus_length_9 : decode c_Bus_length 9 = .ok (.invokestatic 22, 3) := by decide +kernel
theorem d_Bus_length_12 : decode c_Bus_length 12 = .ok (.iconst 1, 1) := by decide +kernel
theorem d_Bus_length_13 : decode c_Bus_length 13 = .ok (.iadd, 1) := by decide +kernel
theorem d_Bus_length_14 : decode c_Bus_length 14 = .ok (.ireturn, 1) := by decide +kernel
abbrev c_Bus_member : ByteArray := prog_2_method_3_code
def y_Bus_member : MethodName := ⟨"NetJoins$Bus", "member", "(I)I"⟩
theorem ok_Bus_member : vOK y_Bus_member c_Bus_member 2 (some .int) 1 := ⟨kw_384, kw_382, kw_383, kw_30, by decide +kernel⟩
theorem d_Bus_member_0 : decode c_Bus_member 0 = .ok (.aload_n 0, 1) := by decide +kernel
theorem d_Bus_member_1 : decode c_Bus_member 1 = .ok (.getfield 16, 3) := by decide +kernel
theorem d_Bus_member_4 : decode c_Bus_member 4 = .ok (.aload_n 0, 1) := by decide +kernel
theorem d_Bus_member_5 : decode c_Bus_member 5 = .ok (.getfield 19, 3) := by decide +kernel
theorem d_Bus_member_8 : decode c_Bus_member 8 = .ok (.if_icmp .gt 12, 3) := by decide +kernel
theorem d_Bus_member_11 : decode c_Bus_member 11 = .ok (.aload_n 0, 1) := by decide +kernel
theorem d_Bus_member_12 : decode c_Bus_member 12 = .ok (.getfield 16, 3) := by decide +kernel
theorem d_Bus_member_15 : decode c_Bus_member 15 = .ok (.iload_n 1, 1) := by decide +kernel
theorem d_Bus_member_16 : decode c_Bus_member 16 = .ok (.iadd, 1) := by decide +kernel
theorem d_Bus_member_17 : decode c_Bus_member 17 = .ok (.goto 9, 3) := by decide +kernel
theorem d_Bus_member_20 : decode c_Bus_member 20 = .ok (.aload_n 0, 1) := by decide +kernel
theorem d_Bus_member_21 : decode c_Bus_member 21 = .ok (.getfield 16, 3) := by decide +kernel
theorem d_Bus_member_24 : decode c_Bus_member 24 = .ok (.iload_n 1, 1) := by decide +kernel
theorem d_Bus_member_25 : decode c_Bus_member 25 = .ok (.isub, 1) := by decide +kernel
theorem d_Bus_member_26 : decode c_Bus_member 26 = .ok (.ireturn, 1) := by decide +kernel
abbrev c_Bus_init : ByteArray := prog_2_method_1_code
def y_Bus_init : MethodName := ⟨"NetJoins$Bus", "<init>", "(IIII)V"⟩
theorem ok_Bus_init : iOK y_Bus_init c_Bus_init 5 4 := ⟨kw_1058, kw_1057, kw_30, rfl, by decide +kernel⟩
theorem d_Bus_init_0 : decode c_Bus_init 0 = .ok (.aload_n 0, 1) := by decide +kernel
theorem d_Bus_init_1 : decode c_Bus_init 1 = .ok (.invokespecial 1, 3) := by decide +kernel
theorem d_Bus_init_4 : decode c_Bus_init 4 = .ok (.aload_n 0, 1) := by decide +kernel
theorem d_Bus_init_5 : decode c_Bus_init 5 = .ok (.iload_n 1, 1) := by decide +kernel
theorem d_Bus_init_6 : decode c_Bus_init 6 = .ok (.putfield 7, 3) := by decide +kernel
theorem d_Bus_init_9 : decode c_Bus_init 9 = .ok (.aload_n 0, 1) := by decide +kernel
theorem d_Bus_init_10 : decode c_Bus_init 10 = .ok (.iload_n 2, 1) := by decide +kernel
theorem d_Bus_init_11 : decode c_Bus_init 11 = .ok (.putfield 13, 3) := by decide +kernel
theorem d_Bus_init_14 : decode c_Bus_init 14 = .ok (.aload_n 0, 1) := by decide +kernel
theorem d_Bus_init_15 : decode c_Bus_init 15 = .ok (.iload_n 3, 1) := by decide +kernel
theorem d_Bus_init_16 : decode c_Bus_init 16 = .ok (.putfield 16, 3) := by decide +kernel
theorem d_Bus_init_19 : decode c_Bus_init 19 = .ok (.aload_n 0, 1) := by decide +kernel
theorem d_Bus_init_20 : decode c_Bus_init 20 = .ok (.iload 4, 2) := by decide +kernel
theorem d_Bus_init_22 : decode c_Bus_init 22 = .ok (.putfield 19, 3) := by decide +kernel
theorem d_Bus_init_25 : decode c_Bus_init 25 = .ok (.return_, 1) := by decide +kernel
abbrev c_Port_init : ByteArray := prog_5_method_1_code
def y_Port_init : MethodName := ⟨"NetJoins$Port", "<init>", "(IIIII)V"⟩
theorem ok_Port_init : iOK y_Port_init c_Port_init 6 5 := ⟨kw_1021, kw_1020, kw_29, rfl, by decide +kernel⟩
theorem d_Port_init_0 : decode c_Port_init 0 = .ok (.aload_n 0, 1) := by decide +kernel
theorem d_Port_init_1 : decode c_Port_init 1 = .ok (.invokespecial 1, 3) := by decide +kernel
theorem d_Port_init_4 : decode c_Port_init 4 = .ok (.aload_n 0, 1) := by decide +kernel
theorem d_Port_init_5 : decode c_Port_init 5 = .ok (.iload_n 1, 1) := by decide +kernel
theorem d_Port_init_6 : decode c_Port_init 6 = .ok (.putfield 7, 3) := by decide +kernel
theorem d_Port_init_9 : decode c_Port_init 9 = .ok (.aload_n 0, 1) := by decide +kernel
theorem d_Port_init_10 : decode c_Port_init 10 = .ok (.iload_n 2, 1) := by decide +kernel
theorem d_Port_init_11 : decode c_Port_init 11 = .ok (.putfield 13, 3) := by decide +kernel
theorem d_Port_init_14 : decode c_Port_init 14 = .ok (.aload_n 0, 1) := by decide +kernel
theorem d_Port_init_15 : decode c_Port_init 15 = .ok (.iload_n 3, 1) := by decide +kernel
theorem d_Port_init_16 : decode c_Port_init 16 = .ok (.putfield 16, 3) := by decide +kernel
theorem d_Port_init_19 : decode c_Port_init 19 = .ok (.aload_n 0, 1) := by decide +kernel
theorem d_Port_init_20 : decode c_Port_init 20 = .ok (.iload 4, 2) := by decide +kernel
theorem d_Port_init_22 : decode c_Port_init 22 = .ok (.putfield 19, 3) := by decide +kernel
theorem d_Port_init_25 : decode c_Port_init 25 = .ok (.aload_n 0, 1) := by decide +kernel
theorem d_Port_init_26 : decode c_Port_init 26 = .ok (.iload 5, 2) := by decide +kernel
theorem d_Port_init_28 : decode c_Port_init 28 = .ok (.putfield 22, 3) := by decide +kernel
theorem d_Port_init_31 : decode c_Port_init 31 = .ok (.return_, 1) := by decide +kernel
abbrev c_Sheet_init : ByteArray := prog_6_method_1_code
def y_Sheet_init : MethodName := ⟨"NetJoins$Sheet", "<init>", "(IIII)V"⟩
theorem ok_Sheet_init : iOK y_Sheet_init c_Sheet_init 5 4 := ⟨kw_519, kw_518, kw_16, rfl, by decide +kernel⟩
theorem d_Sheet_init_0 : decode c_Sheet_init 0 = .ok (.aload_n 0, 1) := by decide +kernel
theorem d_Sheet_init_1 : decode c_Sheet_init 1 = .ok (.invokespecial 1, 3) := by decide +kernel
theorem d_Sheet_init_4 : decode c_Sheet_init 4 = .ok (.aload_n 0, 1) := by decide +kernel
theorem d_Sheet_init_5 : decode c_Sheet_init 5 = .ok (.iload_n 1, 1) := by decide +kernel
theorem d_Sheet_init_6 : decode c_Sheet_init 6 = .ok (.putfield 7, 3) := by decide +kernel
theorem d_Sheet_init_9 : decode c_Sheet_init 9 = .ok (.aload_n 0, 1) := by decide +kernel
theorem d_Sheet_init_10 : decode c_Sheet_init 10 = .ok (.iload_n 2, 1) := by decide +kernel
theorem d_Sheet_init_11 : decode c_Sheet_init 11 = .ok (.putfield 13, 3) := by decide +kernel
theorem d_Sheet_init_14 : decode c_Sheet_init 14 = .ok (.aload_n 0, 1) := by decide +kernel
theorem d_Sheet_init_15 : decode c_Sheet_init 15 = .ok (.iload_n 3, 1) := by decide +kernel
theorem d_Sheet_init_16 : decode c_Sheet_init 16 = .ok (.putfield 16, 3) := by decide +kernel
theorem d_Sheet_init_19 : decode c_Sheet_init 19 = .ok (.aload_n 0, 1) := by decide +kernel
theorem d_Sheet_init_20 : decode c_Sheet_init 20 = .ok (.iload 4, 2) := by decide +kernel
theorem d_Sheet_init_22 : decode c_Sheet_init 22 = .ok (.putfield 19, 3) := by decide +kernel
theorem d_Sheet_init_25 : decode c_Sheet_init 25 = .ok (.aload_n 0, 1) := by decide +kernel
theorem d_Sheet_init_26 : decode c_Sheet_init 26 = .ok (.iconst 1, 1) := by decide +kernel
theorem d_Sheet_init_27 : decode c_Sheet_init 27 = .ok (.putfield 22, 3) := by decide +kernel
theorem d_Sheet_init_30 : decode c_Sheet_init 30 = .ok (.return_, 1) := by decide +kernel
abbrev c_Spot_isAt : ByteArray := prog_7_method_2_code
def y_Spot_isAt : MethodName := ⟨"NetJoins$Spot", "isAt", "(IJJ)Z"⟩
theorem ok_Spot_isAt : vOK y_Spot_isAt c_Spot_isAt 6 (some .boolean) 3 := ⟨kw_258, kw_256, kw_257, kw_22, by decide +kernel⟩
theorem d_Spot_isAt_0 : decode c_Spot_isAt 0 = .ok (.aload_n 0, 1) := by decide +kernel
theorem d_Spot_isAt_1 : decode c_Spot_isAt 1 = .ok (.getfield 7, 3) := by decide +kernel
theorem d_Spot_isAt_4 : decode c_Spot_isAt 4 = .ok (.iload_n 1, 1) := by decide +kernel
theorem d_Spot_isAt_5 : decode c_Spot_isAt 5 = .ok (.if_icmp .ne 26, 3) := by decide +kernel
theorem d_Spot_isAt_8 : decode c_Spot_isAt 8 = .ok (.aload_n 0, 1) := by decide +kernel
theorem d_Spot_isAt_9 : decode c_Spot_isAt 9 = .ok (.getfield 13, 3) := by decide +kernel
theorem d_Spot_isAt_12 : decode c_Spot_isAt 12 = .ok (.lload_n 2, 1) := by decide +kernel
theorem d_Spot_isAt_13 : decode c_Spot_isAt 13 = .ok (.lcmp, 1) := by decide +kernel
theorem d_Spot_isAt_14 : decode c_Spot_isAt 14 = .ok (.ifCond .ne 17, 3) := by decide +kernel
theorem d_Spot_isAt_17 : decode c_Spot_isAt 17 = .ok (.aload_n 0, 1) := by decide +kernel
theorem d_Spot_isAt_18 : decode c_Spot_isAt 18 = .ok (.getfield 17, 3) := by decide +kernel
theorem d_Spot_isAt_21 : decode c_Spot_isAt 21 = .ok (.lload 4, 2) := by decide +kernel
theorem d_Spot_isAt_23 : decode c_Spot_isAt 23 = .ok (.lcmp, 1) := by decide +kernel
theorem d_Spot_isAt_24 : decode c_Spot_isAt 24 = .ok (.ifCond .ne 7, 3) := by decide +kernel
theorem d_Spot_isAt_27 : decode c_Spot_isAt 27 = .ok (.iconst 1, 1) := by decide +kernel
theorem d_Spot_isAt_28 : decode c_Spot_isAt 28 = .ok (.goto 4, 3) := by decide +kernel
theorem d_Spot_isAt_31 : decode c_Spot_isAt 31 = .ok (.iconst 0, 1) := by decide +kernel
theorem d_Spot_isAt_32 : decode c_Spot_isAt 32 = .ok (.ireturn, 1) := by decide +kernel
abbrev c_Spot_init : ByteArray := prog_7_method_1_code
def y_Spot_init : MethodName := ⟨"NetJoins$Spot", "<init>", "(IJJII)V"⟩
theorem ok_Spot_init : iOK y_Spot_init c_Spot_init 8 5 := ⟨kw_696, kw_695, kw_22, rfl, by decide +kernel⟩
theorem d_Spot_init_0 : decode c_Spot_init 0 = .ok (.aload_n 0, 1) := by decide +kernel
theorem d_Spot_init_1 : decode c_Spot_init 1 = .ok (.invokespecial 1, 3) := by decide +kernel
theorem d_Spot_init_4 : decode c_Spot_init 4 = .ok (.aload_n 0, 1) := by decide +kernel
theorem d_Spot_init_5 : decode c_Spot_init 5 = .ok (.iload_n 1, 1) := by decide +kernel
theorem d_Spot_init_6 : decode c_Spot_init 6 = .ok (.putfield 7, 3) := by decide +kernel
theorem d_Spot_init_9 : decode c_Spot_init 9 = .ok (.aload_n 0, 1) := by decide +kernel
theorem d_Spot_init_10 : decode c_Spot_init 10 = .ok (.lload_n 2, 1) := by decide +kernel
theorem d_Spot_init_11 : decode c_Spot_init 11 = .ok (.putfield 13, 3) := by decide +kernel
theorem d_Spot_init_14 : decode c_Spot_init 14 = .ok (.aload_n 0, 1) := by decide +kernel
theorem d_Spot_init_15 : decode c_Spot_init 15 = .ok (.lload 4, 2) := by decide +kernel
theorem d_Spot_init_17 : decode c_Spot_init 17 = .ok (.putfield 17, 3) := by decide +kernel
theorem d_Spot_init_20 : decode c_Spot_init 20 = .ok (.aload_n 0, 1) := by decide +kernel
theorem d_Spot_init_21 : decode c_Spot_init 21 = .ok (.iload 6, 2) := by decide +kernel
theorem d_Spot_init_23 : decode c_Spot_init 23 = .ok (.putfield 20, 3) := by decide +kernel
theorem d_Spot_init_26 : decode c_Spot_init 26 = .ok (.aload_n 0, 1) := by decide +kernel
theorem d_Spot_init_27 : decode c_Spot_init 27 = .ok (.iload 7, 2) := by decide +kernel
theorem d_Spot_init_29 : decode c_Spot_init 29 = .ok (.putfield 23, 3) := by decide +kernel
theorem d_Spot_init_32 : decode c_Spot_init 32 = .ok (.return_, 1) := by decide +kernel
abbrev c_Wire_isOn : ByteArray := prog_8_method_2_code
def y_Wire_isOn : MethodName := ⟨"NetJoins$Wire", "isOn", "(I)Z"⟩
theorem ok_Wire_isOn : vOK y_Wire_isOn c_Wire_isOn 2 (some .boolean) 1 := ⟨kw_267, kw_265, kw_266, kw_21, by decide +kernel⟩
theorem d_Wire_isOn_0 : decode c_Wire_isOn 0 = .ok (.aload_n 0, 1) := by decide +kernel
theorem d_Wire_isOn_1 : decode c_Wire_isOn 1 = .ok (.getfield 29, 3) := by decide +kernel
theorem d_Wire_isOn_4 : decode c_Wire_isOn 4 = .ok (.ifCond .ne 15, 3) := by decide +kernel
theorem d_Wire_isOn_7 : decode c_Wire_isOn 7 = .ok (.aload_n 0, 1) := by decide +kernel
theorem d_Wire_isOn_8 : decode c_Wire_isOn 8 = .ok (.getfield 7, 3) := by decide +kernel
theorem d_Wire_isOn_11 : decode c_Wire_isOn 11 = .ok (.iload_n 1, 1) := by decide +kernel
theorem d_Wire_isOn_12 : decode c_Wire_isOn 12 = .ok (.if_icmp .ne 7, 3) := by decide +kernel
theorem d_Wire_isOn_15 : decode c_Wire_isOn 15 = .ok (.iconst 1, 1) := by decide +kernel
theorem d_Wire_isOn_16 : decode c_Wire_isOn 16 = .ok (.goto 4, 3) := by decide +kernel
theorem d_Wire_isOn_19 : decode c_Wire_isOn 19 = .ok (.iconst 0, 1) := by decide +kernel
theorem d_Wire_isOn_20 : decode c_Wire_isOn 20 = .ok (.ireturn, 1) := by decide +kernel
abbrev c_Wire_goesThrough : ByteArray := prog_8_method_5_code
def y_Wire_goesThrough : MethodName := ⟨"NetJoins$Wire", "goesThrough", "(LNetJoins$Spot;)Z"⟩
theorem ok_Wire_goesThrough : vOK y_Wire_goesThrough c_Wire_goesThrough 2 (some .boolean) 1 := ⟨kw_263, kw_261, kw_262, kw_21, by decide +kernel⟩
theorem d_Wire_goesThrough_0 : decode c_Wire_goesThrough 0 = .ok (.aload_n 0, 1) := by decide +kernel
theorem d_Wire_goesThrough_1 : decode c_Wire_goesThrough 1 = .ok (.aload_n 1, 1) := by decide +kernel
theorem d_Wire_goesThrough_2 : decode c_Wire_goesThrough 2 = .ok (.getfield 37, 3) := by decide +kernel
theorem d_Wire_goesThrough_5 : decode c_Wire_goesThrough 5 = .ok (.invokevirtual 40, 3) := by decide +kernel
theorem d_Wire_goesThrough_8 : decode c_Wire_goesThrough 8 = .ok (.ifCond .eq 125, 3) := by decide +kernel
theorem d_Wire_goesThrough_11 : decode c_Wire_goesThrough 11 = .ok (.aload_n 1, 1) := by decide +kernel
theorem d_Wire_goesThrough_12 : decode c_Wire_goesThrough 12 = .ok (.getfield 44, 3) := by decide +kernel
theorem d_Wire_goesThrough_15 : decode c_Wire_goesThrough 15 = .ok (.aload_n 0, 1) := by decide +kernel
theorem d_Wire_goesThrough_16 : decode c_Wire_goesThrough 16 = .ok (.getfield 16, 3) := by decide +kernel
theorem d_Wire_goesThrough_19 : decode c_Wire_goesThrough 19 = .ok (.aload_n 0, 1) := by decide +kernel
theorem d_Wire_goesThrough_20 : decode c_Wire_goesThrough 20 = .ok (.getfield 23, 3) := by decide +kernel
theorem d_Wire_goesThrough_23 : decode c_Wire_goesThrough 23 = .ok (.invokestatic 45, 3) := by decide +kernel
theorem d_Wire_goesThrough_26 : decode c_Wire_goesThrough 26 = .ok (.lcmp, 1) := by decide +kernel
theorem d_Wire_goesThrough_27 : decode c_Wire_goesThrough 27 = .ok (.ifCond .lt 106, 3) := by decide +kernel
theorem d_Wire_goesThrough_30 : decode c_Wire_goesThrough 30 = .ok (.aload_n 1, 1) := by decide +kernel
theorem d_Wire_goesThrough_31 : decode c_Wire_goesThrough 31 = .ok (.getfield 44, 3) := by decide +kernel
theorem d_Wire_goesThrough_34 : decode c_Wire_goesThrough 34 = .ok (.aload_n 0, 1) := by decide +kernel
theorem d_Wire_goesThrough_35 : decode c_Wire_goesThrough 35 = .ok (.getfield 16, 3) := by decide +kernel
theorem d_Wire_goesThrough_38 : decode c_Wire_goesThrough 38 = .ok (.aload_n 0, 1) := by decide +kernel
theorem d_Wire_goesThrough_39 : decode c_Wire_goesThrough 39 = .ok (.getfield 23, 3) := by decide +kernel
theorem d_Wire_goesThrough_42 : decode c_Wire_goesThrough 42 = .ok (.invokestatic 51, 3) := by decide +kernel
theorem d_Wire_goesThrough_45 : decode c_Wire_goesThrough 45 = .ok (.lcmp, 1) := by decide +kernel
theorem d_Wire_goesThrough_46 : decode c_Wire_goesThrough 46 = .ok (.ifCond .gt 87, 3) := by decide +kernel
theorem d_Wire_goesThrough_49 : decode c_Wire_goesThrough 49 = .ok (.aload_n 1, 1) := by decide +kernel
theorem d_Wire_goesThrough_50 : decode c_Wire_goesThrough 50 = .ok (.getfield 54, 3) := by decide +kernel
theorem d_Wire_goesThrough_53 : decode c_Wire_goesThrough 53 = .ok (.aload_n 0, 1) := by decide +kernel
theorem d_Wire_goesThrough_54 : decode c_Wire_goesThrough 54 = .ok (.getfield 20, 3) := by decide +kernel
theorem d_Wire_goesThrough_57 : decode c_Wire_goesThrough 57 = .ok (.aload_n 0, 1) := by decide +kernel
theorem d_Wire_goesThrough_58 : decode c_Wire_goesThrough 58 = .ok (.getfield 26, 3) := by decide +kernel
theorem d_Wire_goesThrough_61 : decode c_Wire_goesThrough 61 = .ok (.invokestatic 45, 3) := by decide +kernel
theorem d_Wire_goesThrough_64 : decode c_Wire_goesThrough 64 = .ok (.lcmp, 1) := by decide +kernel
theorem d_Wire_goesThrough_65 : decode c_Wire_goesThrough 65 = .ok (.ifCond .lt 68, 3) := by decide +kernel
theorem d_Wire_goesThrough_68 : decode c_Wire_goesThrough 68 = .ok (.aload_n 1, 1) := by decide +kernel
theorem d_Wire_goesThrough_69 : decode c_Wire_goesThrough 69 = .ok (.getfield 54, 3) := by decide +kernel
theorem d_Wire_goesThrough_72 : decode c_Wire_goesThrough 72 = .ok (.aload_n 0, 1) := by decide +kernel
theorem d_Wire_goesThrough_73 : decode c_Wire_goesThrough 73 = .ok (.getfield 20, 3) := by decide +kernel
theorem d_Wire_goesThrough_76 : decode c_Wire_goesThrough 76 = .ok (.aload_n 0, 1) := by decide +kernel
theorem d_Wire_goesThrough_77 : decode c_Wire_goesThrough 77 = .ok (.getfield 26, 3) := by decide +kernel
theorem d_Wire_goesThrough_80 : decode c_Wire_goesThrough 80 = .ok (.invokestatic 51, 3) := by decide +kernel
theorem d_Wire_goesThrough_83 : decode c_Wire_goesThrough 83 = .ok (.lcmp, 1) := by decide +kernel
theorem d_Wire_goesThrough_84 : decode c_Wire_goesThrough 84 = .ok (.ifCond .gt 49, 3) := by decide +kernel
theorem d_Wire_goesThrough_87 : decode c_Wire_goesThrough 87 = .ok (.aload_n 0, 1) := by decide +kernel
theorem d_Wire_goesThrough_88 : decode c_Wire_goesThrough 88 = .ok (.getfield 23, 3) := by decide +kernel
theorem d_Wire_goesThrough_91 : decode c_Wire_goesThrough 91 = .ok (.aload_n 0, 1) := by decide +kernel
theorem d_Wire_goesThrough_92 : decode c_Wire_goesThrough 92 = .ok (.getfield 16, 3) := by decide +kernel
theorem d_Wire_goesThrough_95 : decode c_Wire_goesThrough 95 = .ok (.lsub, 1) := by decide +kernel
theorem d_Wire_goesThrough_96 : decode c_Wire_goesThrough 96 = .ok (.aload_n 1, 1) := by decide +kernel
theorem d_Wire_goesThrough_97 : decode c_Wire_goesThrough 97 = .ok (.getfield 54, 3) := by decide +kernel
theorem d_Wire_goesThrough_100 : decode c_Wire_goesThrough 100 = .ok (.aload_n 0, 1) := by decide +kernel
theorem d_Wire_goesThrough_101 : decode c_Wire_goesThrough 101 = .ok (.getfield 20, 3) := by decide +kernel
theorem d_Wire_goesThrough_104 : decode c_Wire_goesThrough 104 = .ok (.lsub, 1) := by decide +kernel
theorem d_Wire_goesThrough_105 : decode c_Wire_goesThrough 105 = .ok (.lmul, 1) := by decide +kernel
theorem d_Wire_goesThrough_106 : decode c_Wire_goesThrough 106 = .ok (.aload_n 0, 1) := by decide +kernel
theorem d_Wire_goesThrough_107 : decode c_Wire_goesThrough 107 = .ok (.getfield 26, 3) := by decide +kernel
theorem d_Wire_goesThrough_110 : decode c_Wire_goesThrough 110 = .ok (.aload_n 0, 1) := by decide +kernel
theorem d_Wire_goesThrough_111 : decode c_Wire_goesThrough 111 = .ok (.getfield 20, 3) := by decide +kernel
theorem d_Wire_goesThrough_114 : decode c_Wire_goesThrough 114 = .ok (.lsub, 1) := by decide +kernel
theorem d_Wire_goesThrough_115 : decode c_Wire_goesThrough 115 = .ok (.aload_n 1, 1) := by decide +kernel
theorem d_Wire_goesThrough_116 : decode c_Wire_goesThrough 116 = .ok (.getfield 44, 3) := by decide +kernel
theorem d_Wire_goesThrough_119 : decode c_Wire_goesThrough 119 = .ok (.aload_n 0, 1) := by decide +kernel
theorem d_Wire_goesThrough_120 : decode c_Wire_goesThrough 120 = .ok (.getfield 16, 3) := by decide +kernel
theorem d_Wire_goesThrough_123 : decode c_Wire_goesThrough 123 = .ok (.lsub, 1) := by decide +kernel
theorem d_Wire_goesThrough_124 : decode c_Wire_goesThrough 124 = .ok (.lmul, 1) := by decide +kernel
theorem d_Wire_goesThrough_125 : decode c_Wire_goesThrough 125 = .ok (.lcmp, 1) := by decide +kernel
theorem d_Wire_goesThrough_126 : decode c_Wire_goesThrough 126 = .ok (.ifCond .ne 7, 3) := by decide +kernel
theorem d_Wire_goesThrough_129 : decode c_Wire_goesThrough 129 = .ok (.iconst 1, 1) := by decide +kernel
theorem d_Wire_goesThrough_130 : decode c_Wire_goesThrough 130 = .ok (.goto 4, 3) := by decide +kernel
theorem d_Wire_goesThrough_133 : decode c_Wire_goesThrough 133 = .ok (.iconst 0, 1) := by decide +kernel
theorem d_Wire_goesThrough_134 : decode c_Wire_goesThrough 134 = .ok (.ireturn, 1) := by decide +kernel
abbrev c_Wire_hasEnd : ByteArray := prog_8_method_3_code
def y_Wire_hasEnd : MethodName := ⟨"NetJoins$Wire", "hasEnd", "(JJ)Z"⟩
theorem ok_Wire_hasEnd : vOK y_Wire_hasEnd c_Wire_hasEnd 5 (some .boolean) 2 := ⟨kw_322, kw_320, kw_321, kw_21, by decide +kernel⟩
theorem d_Wire_hasEnd_0 : decode c_Wire_hasEnd 0 = .ok (.aload_n 0, 1) := by decide +kernel
theorem d_Wire_hasEnd_1 : decode c_Wire_hasEnd 1 = .ok (.getfield 16, 3) := by decide +kernel
theorem d_Wire_hasEnd_4 : decode c_Wire_hasEnd 4 = .ok (.lload_n 1, 1) := by decide +kernel
theorem d_Wire_hasEnd_5 : decode c_Wire_hasEnd 5 = .ok (.lcmp, 1) := by decide +kernel
theorem d_Wire_hasEnd_6 : decode c_Wire_hasEnd 6 = .ok (.ifCond .ne 12, 3) := by decide +kernel
theorem d_Wire_hasEnd_9 : decode c_Wire_hasEnd 9 = .ok (.aload_n 0, 1) := by decide +kernel
theorem d_Wire_hasEnd_10 : decode c_Wire_hasEnd 10 = .ok (.getfield 20, 3) := by decide +kernel
theorem d_Wire_hasEnd_13 : decode c_Wire_hasEnd 13 = .ok (.lload_n 3, 1) := by decide +kernel
theorem d_Wire_hasEnd_14 : decode c_Wire_hasEnd 14 = .ok (.lcmp, 1) := by decide +kernel
theorem d_Wire_hasEnd_15 : decode c_Wire_hasEnd 15 = .ok (.ifCond .eq 21, 3) := by decide +kernel
theorem d_Wire_hasEnd_18 : decode c_Wire_hasEnd 18 = .ok (.aload_n 0, 1) := by decide +kernel
theorem d_Wire_hasEnd_19 : decode c_Wire_hasEnd 19 = .ok (.getfield 23, 3) := by decide +kernel
theorem d_Wire_hasEnd_22 : decode c_Wire_hasEnd 22 = .ok (.lload_n 1, 1) := by decide +kernel
theorem d_Wire_hasEnd_23 : decode c_Wire_hasEnd 23 = .ok (.lcmp, 1) := by decide +kernel
theorem d_Wire_hasEnd_24 : decode c_Wire_hasEnd 24 = .ok (.ifCond .ne 16, 3) := by decide +kernel
theorem d_Wire_hasEnd_27 : decode c_Wire_hasEnd 27 = .ok (.aload_n 0, 1) := by decide +kernel
theorem d_Wire_hasEnd_28 : decode c_Wire_hasEnd 28 = .ok (.getfield 26, 3) := by decide +kernel
theorem d_Wire_hasEnd_31 : decode c_Wire_hasEnd 31 = .ok (.lload_n 3, 1) := by decide +kernel
theorem d_Wire_hasEnd_32 : decode c_Wire_hasEnd 32 = .ok (.lcmp, 1) := by decide +kernel
theorem d_Wire_hasEnd_33 : decode c_Wire_hasEnd 33 = .ok (.ifCond .ne 7, 3) := by decide +kernel
theorem d_Wire_hasEnd_36 : decode c_Wire_hasEnd 36 = .ok (.iconst 1, 1) := by decide +kernel
theorem d_Wire_hasEnd_37 : decode c_Wire_hasEnd 37 = .ok (.goto 4, 3) := by decide +kernel
theorem d_Wire_hasEnd_40 : decode c_Wire_hasEnd 40 = .ok (.iconst 0, 1) := by decide +kernel
theorem d_Wire_hasEnd_41 : decode c_Wire_hasEnd 41 = .ok (.ireturn, 1) := by decide +kernel
abbrev c_Wire_hasCommonEnd : ByteArray := prog_8_method_4_code
def y_Wire_hasCommonEnd : MethodName := ⟨"NetJoins$Wire", "hasCommonEnd", "(LNetJoins$Wire;)Z"⟩
theorem ok_Wire_hasCommonEnd : vOK y_Wire_hasCommonEnd c_Wire_hasCommonEnd 2 (some .boolean) 1 := ⟨kw_318, kw_316, kw_317, kw_21, by decide +kernel⟩
theorem d_Wire_hasCommonEnd_0 : decode c_Wire_hasCommonEnd 0 = .ok (.aload_n 0, 1) := by decide +kernel
theorem d_Wire_hasCommonEnd_1 : decode c_Wire_hasCommonEnd 1 = .ok (.aload_n 1, 1) := by decide +kernel
theorem d_Wire_hasCommonEnd_2 : decode c_Wire_hasCommonEnd 2 = .ok (.getfield 16, 3) := by decide +kernel
theorem d_Wire_hasCommonEnd_5 : decode c_Wire_hasCommonEnd 5 = .ok (.aload_n 1, 1) := by decide +kernel
theorem d_Wire_hasCommonEnd_6 : decode c_Wire_hasCommonEnd 6 = .ok (.getfield 20, 3) := by decide +kernel
theorem d_Wire_hasCommonEnd_9 : decode c_Wire_hasCommonEnd 9 = .ok (.invokevirtual 33, 3) := by decide +kernel
theorem d_Wire_hasCommonEnd_12 : decode c_Wire_hasCommonEnd 12 = .ok (.ifCond .ne 18, 3) := by decide +kernel
theorem d_Wire_hasCommonEnd_15 : decode c_Wire_hasCommonEnd 15 = .ok (.aload_n 0, 1) := by decide +kernel
theorem d_Wire_hasCommonEnd_16 : decode c_Wire_hasCommonEnd 16 = .ok (.aload_n 1, 1) := by decide +kernel
theorem d_Wire_hasCommonEnd_17 : decode c_Wire_hasCommonEnd 17 = .ok (.getfield 23, 3) := by decide +kernel
theorem d_Wire_hasCommonEnd_20 : decode c_Wire_hasCommonEnd 20 = .ok (.aload_n 1, 1) := by decide +kernel
theorem d_Wire_hasCommonEnd_21 : decode c_Wire_hasCommonEnd 21 = .ok (.getfield 26, 3) := by decide +kernel
theorem d_Wire_hasCommonEnd_24 : decode c_Wire_hasCommonEnd 24 = .ok (.invokevirtual 33, 3) := by decide +kernel
theorem d_Wire_hasCommonEnd_27 : decode c_Wire_hasCommonEnd 27 = .ok (.ifCond .eq 7, 3) := by decide +kernel
theorem d_Wire_hasCommonEnd_30 : decode c_Wire_hasCommonEnd 30 = .ok (.iconst 1, 1) := by decide +kernel
theorem d_Wire_hasCommonEnd_31 : decode c_Wire_hasCommonEnd 31 = .ok (.goto 4, 3) := by decide +kernel
theorem d_Wire_hasCommonEnd_34 : decode c_Wire_hasCommonEnd 34 = .ok (.iconst 0, 1) := by decide +kernel
theorem d_Wire_hasCommonEnd_35 : decode c_Wire_hasCommonEnd 35 = .ok (.ireturn, 1) := by decide +kernel
abbrev c_Wire_init : ByteArray := prog_8_method_1_code
def y_Wire_init : MethodName := ⟨"NetJoins$Wire", "<init>", "(IIJJJJ)V"⟩
theorem ok_Wire_init : iOK y_Wire_init c_Wire_init 11 6 := ⟨kw_647, kw_646, kw_21, rfl, by decide +kernel⟩
theorem d_Wire_init_0 : decode c_Wire_init 0 = .ok (.aload_n 0, 1) := by decide +kernel
theorem d_Wire_init_1 : decode c_Wire_init 1 = .ok (.invokespecial 1, 3) := by decide +kernel
theorem d_Wire_init_4 : decode c_Wire_init 4 = .ok (.aload_n 0, 1) := by decide +kernel
theorem d_Wire_init_5 : decode c_Wire_init 5 = .ok (.iload_n 1, 1) := by decide +kernel
theorem d_Wire_init_6 : decode c_Wire_init 6 = .ok (.putfield 7, 3) := by decide +kernel
theorem d_Wire_init_9 : decode c_Wire_init 9 = .ok (.aload_n 0, 1) := by decide +kernel
theorem d_Wire_init_10 : decode c_Wire_init 10 = .ok (.iload_n 2, 1) := by decide +kernel
theorem d_Wire_init_11 : decode c_Wire_init 11 = .ok (.putfield 13, 3) := by decide +kernel
theorem d_Wire_init_14 : decode c_Wire_init 14 = .ok (.aload_n 0, 1) := by decide +kernel
theorem d_Wire_init_15 : decode c_Wire_init 15 = .ok (.lload_n 3, 1) := by decide +kernel
theorem d_Wire_init_16 : decode c_Wire_init 16 = .ok (.putfield 16, 3) := by decide +kernel
theorem d_Wire_init_19 : decode c_Wire_init 19 = .ok (.aload_n 0, 1) := by decide +kernel
theorem d_Wire_init_20 : decode c_Wire_init 20 = .ok (.lload 5, 2) := by decide +kernel
theorem d_Wire_init_22 : decode c_Wire_init 22 = .ok (.putfield 20, 3) := by decide +kernel
theorem d_Wire_init_25 : decode c_Wire_init 25 = .ok (.aload_n 0, 1) := by decide +kernel
theorem d_Wire_init_26 : decode c_Wire_init 26 = .ok (.lload 7, 2) := by decide +kernel
theorem d_Wire_init_28 : decode c_Wire_init 28 = .ok (.putfield 23, 3) := by decide +kernel
theorem d_Wire_init_31 : decode c_Wire_init 31 = .ok (.aload_n 0, 1) := by decide +kernel
theorem d_Wire_init_32 : decode c_Wire_init 32 = .ok (.lload 9, 2) := by decide +kernel
theorem d_Wire_init_34 : decode c_Wire_init 34 = .ok (.putfield 26, 3) := by decide +kernel
theorem d_Wire_init_37 : decode c_Wire_init 37 = .ok (.return_, 1) := by decide +kernel
