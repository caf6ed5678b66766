abbrev c_Joins_node : ByteArray := prog_3_method_2_code
def y_Joins_node : MethodName := ⟨"NetJoins$Joins", "node", "(II)I"⟩
theorem ok_Joins_node : sOK y_Joins_node c_Joins_node 2 (some .int) 2 := ⟨kw_79, kw_78, kw_5, by decide +kernel⟩
theorem d_Joins_node_0 : decode c_Joins_node 0 = .ok (.iload_n 0, 1) := by decide +kernel
theorem d_Joins_node_1 : decode c_Joins_node 1 = .ok (.bipush 11, 2) := by decide +kernel
theorem d_Joins_node_3 : decode c_Joins_node 3 = .ok (.ishl, 1) := by decide +kernel
theorem d_Joins_node_4 : decode c_Joins_node 4 = .ok (.iload_n 1, 1) := by decide +kernel
theorem d_Joins_node_5 : decode c_Joins_node 5 = .ok (.iadd, 1) := by decide +kernel
theorem d_Joins_node_6 : decode c_Joins_node 6 = .ok (.ireturn, 1) := by decide +kernel
abbrev c_Joins_scatterRow : ByteArray := prog_3_method_5_code
def y_Joins_scatterRow : MethodName := ⟨"NetJoins$Joins", "scatterRow", "(I)V"⟩
theorem ok_Joins_scatterRow : vOK y_Joins_scatterRow c_Joins_scatterRow 4 none 1 := ⟨kw_76, kw_75, ks_0, kw_5, by decide +kernel⟩
theorem d_Joins_scatterRow_0 : decode c_Joins_scatterRow 0 = .ok (.aload_n 0, 1) := by decide +kernel
theorem d_Joins_scatterRow_1 : decode c_Joins_scatterRow 1 = .ok (.getfield 11, 3) := by decide +kernel
theorem d_Joins_scatterRow_4 : decode c_Joins_scatterRow 4 = .ok (.iload_n 1, 1) := by decide +kernel
theorem d_Joins_scatterRow_5 : decode c_Joins_scatterRow 5 = .ok (.aaload, 1) := by decide +kernel
theorem d_Joins_scatterRow_6 : decode c_Joins_scatterRow 6 = .ok (.astore_n 2, 1) := by decide +kernel
theorem d_Joins_scatterRow_7 : decode c_Joins_scatterRow 7 = .ok (.iconst 0, 1) := by decide +kernel
theorem d_Joins_scatterRow_8 : decode c_Joins_scatterRow 8 = .ok (.istore_n 3, 1) := by decide +kernel
theorem d_Joins_scatterRow_9 : decode c_Joins_scatterRow 9 = .ok (.iload_n 3, 1) := by decide +kernel
theorem d_Joins_scatterRow_10 : decode c_Joins_scatterRow 10 = .ok (.aload_n 2, 1) := by decide +kernel
theorem d_Joins_scatterRow_11 : decode c_Joins_scatterRow 11 = .ok (.arraylength, 1) := by decide +kernel
theorem d_Joins_scatterRow_12 : decode c_Joins_scatterRow 12 = .ok (.if_icmp .ge 17, 3) := by decide +kernel
theorem d_Joins_scatterRow_15 : decode c_Joins_scatterRow 15 = .ok (.aload_n 2, 1) := by decide +kernel
theorem d_Joins_scatterRow_16 : decode c_Joins_scatterRow 16 = .ok (.iload_n 3, 1) := by decide +kernel
theorem d_Joins_scatterRow_17 : decode c_Joins_scatterRow 17 = .ok (.iload_n 1, 1) := by decide +kernel
theorem d_Joins_scatterRow_18 : decode c_Joins_scatterRow 18 = .ok (.iload_n 3, 1) := by decide +kernel
theorem d_Joins_scatterRow_19 : decode c_Joins_scatterRow 19 = .ok (.invokestatic 18, 3) := by decide +kernel
theorem d_Joins_scatterRow_22 : decode c_Joins_scatterRow 22 = .ok (.iastore, 1) := by decide +kernel
theorem d_Joins_scatterRow_23 : decode c_Joins_scatterRow 23 = .ok (.iinc 3 1, 3) := by decide +kernel
theorem d_Joins_scatterRow_26 : decode c_Joins_scatterRow 26 = .ok (.goto (-17), 3) := by decide +kernel
theorem d_Joins_scatterRow_29 : decode c_Joins_scatterRow 29 = .ok (.return_, 1) := by decide +kernel
abbrev c_Joins_has : ByteArray := prog_3_method_6_code
def y_Joins_has : MethodName := ⟨"NetJoins$Joins", "has", "(I)Z"⟩
theorem ok_Joins_has : vOK y_Joins_has c_Joins_has 3 (some .boolean) 1 := ⟨kw_230, kw_229, ks_4, kw_5, by decide +kernel⟩
theorem d_Joins_has_0 : decode c_Joins_has 0 = .ok (.iload_n 1, 1) := by decide +kernel
theorem d_Joins_has_1 : decode c_Joins_has 1 = .ok (.bipush 11, 2) := by decide +kernel
theorem d_Joins_has_3 : decode c_Joins_has 3 = .ok (.ishr, 1) := by decide +kernel
theorem d_Joins_has_4 : decode c_Joins_has 4 = .ok (.istore_n 2, 1) := by decide +kernel
theorem d_Joins_has_5 : decode c_Joins_has 5 = .ok (.iload_n 2, 1) := by decide +kernel
theorem d_Joins_has_6 : decode c_Joins_has 6 = .ok (.ifCond .lt 31, 3) := by decide +kernel
theorem d_Joins_has_9 : decode c_Joins_has 9 = .ok (.iload_n 2, 1) := by decide +kernel
theorem d_Joins_has_10 : decode c_Joins_has 10 = .ok (.aload_n 0, 1) := by decide +kernel
theorem d_Joins_has_11 : decode c_Joins_has 11 = .ok (.getfield 11, 3) := by decide +kernel
theorem d_Joins_has_14 : decode c_Joins_has 14 = .ok (.arraylength, 1) := by decide +kernel
theorem d_Joins_has_15 : decode c_Joins_has 15 = .ok (.if_icmp .ge 22, 3) := by decide +kernel
theorem d_Joins_has_18 : decode c_Joins_has 18 = .ok (.iload_n 1, 1) := by decide +kernel
theorem d_Joins_has_19 : decode c_Joins_has 19 = .ok (.sipush 2047, 3) := by decide +kernel
theorem d_Joins_has_22 : decode c_Joins_has 22 = .ok (.iand, 1) := by decide +kernel
theorem d_Joins_has_23 : decode c_Joins_has 23 = .ok (.aload_n 0, 1) := by decide +kernel
theorem d_Joins_has_24 : decode c_Joins_has 24 = .ok (.getfield 11, 3) := by decide +kernel
theorem d_Joins_has_27 : decode c_Joins_has 27 = .ok (.iload_n 2, 1) := by decide +kernel
theorem d_Joins_has_28 : decode c_Joins_has 28 = .ok (.aaload, 1) := by decide +kernel
theorem d_Joins_has_29 : decode c_Joins_has 29 = .ok (.arraylength, 1) := by decide +kernel
theorem d_Joins_has_30 : decode c_Joins_has 30 = .ok (.if_icmp .ge 7, 3) := by decide +kernel
theorem d_Joins_has_33 : decode c_Joins_has 33 = .ok (.iconst 1, 1) := by decide +kernel
theorem d_Joins_has_34 : decode c_Joins_has 34 = .ok (.goto 4, 3) := by decide +kernel
theorem d_Joins_has_37 : decode c_Joins_has 37 = .ok (.iconst 0, 1) := by decide +kernel
theorem d_Joins_has_38 : decode c_Joins_has 38 = .ok (.ireturn, 1) := by decide +kernel
abbrev c_Joins_climb : ByteArray := prog_3_method_8_code
def y_Joins_climb : MethodName := ⟨"NetJoins$Joins", "climb", "(I)I"⟩
theorem ok_Joins_climb : vOK y_Joins_climb c_Joins_climb 6 (some .int) 1 := ⟨kw_234, kw_233, ks_5, kw_5, by decide +kernel⟩
theorem d_Joins_climb_0 : decode c_Joins_climb 0 = .ok (.iload_n 1, 1) := by decide +kernel
theorem d_Joins_climb_1 : decode c_Joins_climb 1 = .ok (.istore_n 2, 1) := by decide +kernel
theorem d_Joins_climb_2 : decode c_Joins_climb 2 = .ok (.iconst 0, 1) := by decide +kernel
theorem d_Joins_climb_3 : decode c_Joins_climb 3 = .ok (.istore_n 3, 1) := by decide +kernel
theorem d_Joins_climb_4 : decode c_Joins_climb 4 = .ok (.iload_n 3, 1) := by decide +kernel
theorem d_Joins_climb_5 : decode c_Joins_climb 5 = .ok (.ldc 30, 2) := by decide +kernel
theorem d_Joins_climb_7 : decode c_Joins_climb 7 = .ok (.if_icmp .ge 74, 3) := by decide +kernel
theorem d_Joins_climb_10 : decode c_Joins_climb 10 = .ok (.aload_n 0, 1) := by decide +kernel
theorem d_Joins_climb_11 : decode c_Joins_climb 11 = .ok (.getfield 11, 3) := by decide +kernel
theorem d_Joins_climb_14 : decode c_Joins_climb 14 = .ok (.iload_n 2, 1) := by decide +kernel
theorem d_Joins_climb_15 : decode c_Joins_climb 15 = .ok (.bipush 11, 2) := by decide +kernel
theorem d_Joins_climb_17 : decode c_Joins_climb 17 = .ok (.ishr, 1) := by decide +kernel
theorem d_Joins_climb_18 : decode c_Joins_climb 18 = .ok (.aaload, 1) := by decide +kernel
theorem d_Joins_climb_19 : decode c_Joins_climb 19 = .ok (.iload_n 2, 1) := by decide +kernel
theorem d_Joins_climb_20 : decode c_Joins_climb 20 = .ok (.sipush 2047, 3) := by decide +kernel
theorem d_Joins_climb_23 : decode c_Joins_climb 23 = .ok (.iand, 1) := by decide +kernel
theorem d_Joins_climb_24 : decode c_Joins_climb 24 = .ok (.iaload, 1) := by decide +kernel
theorem d_Joins_climb_25 : decode c_Joins_climb 25 = .ok (.istore 4, 2) := by decide +kernel
theorem d_Joins_climb_27 : decode c_Joins_climb 27 = .ok (.iload 4, 2) := by decide +kernel
theorem d_Joins_climb_29 : decode c_Joins_climb 29 = .ok (.iload_n 2, 1) := by decide +kernel
theorem d_Joins_climb_30 : decode c_Joins_climb 30 = .ok (.if_icmp .ne 6, 3) := by decide +kernel
theorem d_Joins_climb_33 : decode c_Joins_climb 33 = .ok (.goto 48, 3) := by decide +kernel
theorem d_Joins_climb_36 : decode c_Joins_climb 36 = .ok (.aload_n 0, 1) := by decide +kernel
theorem d_Joins_climb_37 : decode c_Joins_climb 37 = .ok (.getfield 11, 3) := by decide +kernel
theorem d_Joins_climb_40 : decode c_Joins_climb 40 = .ok (.iload 4, 2) := by decide +kernel
theorem d_Joins_climb_42 : decode c_Joins_climb 42 = .ok (.bipush 11, 2) := by decide +kernel
theorem d_Joins_climb_44 : decode c_Joins_climb 44 = .ok (.ishr, 1) := by decide +kernel
theorem d_Joins_climb_45 : decode c_Joins_climb 45 = .ok (.aaload, 1) := by decide +kernel
theorem d_Joins_climb_46 : decode c_Joins_climb 46 = .ok (.iload 4, 2) := by decide +kernel
theorem d_Joins_climb_48 : decode c_Joins_climb 48 = .ok (.sipush 2047, 3) := by decide +kernel
theorem d_Joins_climb_51 : decode c_Joins_climb 51 = .ok (.iand, 1) := by decide +kernel
theorem d_Joins_climb_52 : decode c_Joins_climb 52 = .ok (.iaload, 1) := by decide +kernel
theorem d_Joins_climb_53 : decode c_Joins_climb 53 = .ok (.istore 5, 2) := by decide +kernel
theorem d_Joins_climb_55 : decode c_Joins_climb 55 = .ok (.aload_n 0, 1) := by decide +kernel
theorem d_Joins_climb_56 : decode c_Joins_climb 56 = .ok (.getfield 11, 3) := by decide +kernel
theorem d_Joins_climb_59 : decode c_Joins_climb 59 = .ok (.iload_n 2, 1) := by decide +kernel
theorem d_Joins_climb_60 : decode c_Joins_climb 60 = .ok (.bipush 11, 2) := by decide +kernel
theorem d_Joins_climb_62 : decode c_Joins_climb 62 = .ok (.ishr, 1) := by decide +kernel
theorem d_Joins_climb_63 : decode c_Joins_climb 63 = .ok (.aaload, 1) := by decide +kernel
theorem d_Joins_climb_64 : decode c_Joins_climb 64 = .ok (.iload_n 2, 1) := by decide +kernel
theorem d_Joins_climb_65 : decode c_Joins_climb 65 = .ok (.sipush 2047, 3) := by decide +kernel
theorem d_Joins_climb_68 : decode c_Joins_climb 68 = .ok (.iand, 1) := by decide +kernel
theorem d_Joins_climb_69 : decode c_Joins_climb 69 = .ok (.iload 5, 2) := by decide +kernel
theorem d_Joins_climb_71 : decode c_Joins_climb 71 = .ok (.iastore, 1) := by decide +kernel
theorem d_Joins_climb_72 : decode c_Joins_climb 72 = .ok (.iload 5, 2) := by decide +kernel
theorem d_Joins_climb_74 : decode c_Joins_climb 74 = .ok (.istore_n 2, 1) := by decide +kernel
theorem d_Joins_climb_75 : decode c_Joins_climb 75 = .ok (.iinc 3 1, 3) := by decide +kernel
theorem d_Joins_climb_78 : decode c_Joins_climb 78 = .ok (.goto (-74), 3) := by decide +kernel
theorem d_Joins_climb_81 : decode c_Joins_climb 81 = .ok (.iload_n 2, 1) := by decide +kernel
theorem d_Joins_climb_82 : decode c_Joins_climb 82 = .ok (.ireturn, 1) := by decide +kernel
abbrev c_Joins_root : ByteArray := prog_3_method_7_code
def y_Joins_root : MethodName := ⟨"NetJoins$Joins", "root", "(I)I"⟩
theorem ok_Joins_root : vOK y_Joins_root c_Joins_root 2 (some .int) 1 := ⟨kw_226, kw_224, kw_225, kw_5, by decide +kernel⟩
theorem d_Joins_root_0 : decode c_Joins_root 0 = .ok (.aload_n 0, 1) := by decide +kernel
theorem d_Joins_root_1 : decode c_Joins_root 1 = .ok (.iload_n 1, 1) := by decide +kernel
theorem d_Joins_root_2 : decode c_Joins_root 2 = .ok (.invokevirtual 22, 3) := by decide +kernel
theorem d_Joins_root_5 : decode c_Joins_root 5 = .ok (.ifCond .eq 11, 3) := by decide +kernel
theorem d_Joins_root_8 : decode c_Joins_root 8 = .ok (.aload_n 0, 1) := by decide +kernel
theorem d_Joins_root_9 : decode c_Joins_root 9 = .ok (.iload_n 1, 1) := by decide +kernel
theorem d_Joins_root_10 : decode c_Joins_root 10 = .ok (.invokevirtual 26, 3) := by decide +kernel
theorem d_Joins_root_13 : decode c_Joins_root 13 = .ok (.goto 4, 3) := by decide +kernel
theorem d_Joins_root_16 : decode c_Joins_root 16 = .ok (.iload_n 1, 1) := by decide +kernel
theorem d_Joins_root_17 : decode c_Joins_root 17 = .ok (.ireturn, 1) := by decide +kernel
abbrev c_Joins_join : ByteArray := prog_3_method_9_code
def y_Joins_join : MethodName := ⟨"NetJoins$Joins", "join", "(II)V"⟩
theorem ok_Joins_join : vOK y_Joins_join c_Joins_join 7 none 2 := ⟨kw_329, kw_327, kw_328, kw_5, by decide +kernel⟩
theorem d_Joins_join_0 : decode c_Joins_join 0 = .ok (.aload_n 0, 1) := by decide +kernel
theorem d_Joins_join_1 : decode c_Joins_join 1 = .ok (.iload_n 1, 1) := by decide +kernel
theorem d_Joins_join_2 : decode c_Joins_join 2 = .ok (.invokevirtual 22, 3) := by decide +kernel
theorem d_Joins_join_5 : decode c_Joins_join 5 = .ok (.ifCond .eq 11, 3) := by decide +kernel
theorem d_Joins_join_8 : decode c_Joins_join 8 = .ok (.aload_n 0, 1) := by decide +kernel
theorem d_Joins_join_9 : decode c_Joins_join 9 = .ok (.iload_n 2, 1) := by decide +kernel
theorem d_Joins_join_10 : decode c_Joins_join 10 = .ok (.invokevirtual 22, 3) := by decide +kernel
theorem d_Joins_join_13 : decode c_Joins_join 13 = .ok (.ifCond .ne 4, 3) := by decide +kernel
theorem d_Joins_join_16 : decode c_Joins_join 16 = .ok (.return_, 1) := by decide +kernel
theorem d_Joins_join_17 : decode c_Joins_join 17 = .ok (.aload_n 0, 1) := by decide +kernel
theorem d_Joins_join_18 : decode c_Joins_join 18 = .ok (.iload_n 1, 1) := by decide +kernel
theorem d_Joins_join_19 : decode c_Joins_join 19 = .ok (.invokevirtual 26, 3) := by decide +kernel
theorem d_Joins_join_22 : decode c_Joins_join 22 = .ok (.istore_n 3, 1) := by decide +kernel
theorem d_Joins_join_23 : decode c_Joins_join 23 = .ok (.aload_n 0, 1) := by decide +kernel
theorem d_Joins_join_24 : decode c_Joins_join 24 = .ok (.iload_n 2, 1) := by decide +kernel
theorem d_Joins_join_25 : decode c_Joins_join 25 = .ok (.invokevirtual 26, 3) := by decide +kernel
theorem d_Joins_join_28 : decode c_Joins_join 28 = .ok (.istore 4, 2) := by decide +kernel
theorem d_Joins_join_30 : decode c_Joins_join 30 = .ok (.iload_n 3, 1) := by decide +kernel
theorem d_Joins_join_31 : decode c_Joins_join 31 = .ok (.iload 4, 2) := by decide +kernel
theorem d_Joins_join_33 : decode c_Joins_join 33 = .ok (.invokestatic 31, 3) := by decide +kernel
theorem d_Joins_join_36 : decode c_Joins_join 36 = .ok (.istore 5, 2) := by decide +kernel
theorem d_Joins_join_38 : decode c_Joins_join 38 = .ok (.iload_n 3, 1) := by decide +kernel
theorem d_Joins_join_39 : decode c_Joins_join 39 = .ok (.iload 4, 2) := by decide +kernel
theorem d_Joins_join_41 : decode c_Joins_join 41 = .ok (.invokestatic 36, 3) := by decide +kernel
theorem d_Joins_join_44 : decode c_Joins_join 44 = .ok (.istore 6, 2) := by decide +kernel
theorem d_Joins_join_46 : decode c_Joins_join 46 = .ok (.aload_n 0, 1) := by decide +kernel
theorem d_Joins_join_47 : decode c_Joins_join 47 = .ok (.getfield 11, 3) := by decide +kernel
theorem d_Joins_join_50 : decode c_Joins_join 50 = .ok (.iload 6, 2) := by decide +kernel
theorem d_Joins_join_52 : decode c_Joins_join 52 = .ok (.bipush 11, 2) := by decide +kernel
theorem d_Joins_join_54 : decode c_Joins_join 54 = .ok (.ishr, 1) := by decide +kernel
theorem d_Joins_join_55 : decode c_Joins_join 55 = .ok (.aaload, 1) := by decide +kernel
theorem d_Joins_join_56 : decode c_Joins_join 56 = .ok (.iload 6, 2) := by decide +kernel
theorem d_Joins_join_58 : decode c_Joins_join 58 = .ok (.sipush 2047, 3) := by decide +kernel
theorem d_Joins_join_61 : decode c_Joins_join 61 = .ok (.iand, 1) := by decide +kernel
theorem d_Joins_join_62 : decode c_Joins_join 62 = .ok (.iload 5, 2) := by decide +kernel
theorem d_Joins_join_64 : decode c_Joins_join 64 = .ok (.iastore, 1) := by decide +kernel
theorem d_Joins_join_65 : decode c_Joins_join 65 = .ok (.return_, 1) := by decide +kernel
