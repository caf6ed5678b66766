abbrev c_NJ_needSheet : ByteArray := prog_1_method_18_code
def y_NJ_needSheet : MethodName := ⟨"NetJoins", "needSheet", "(I)V"⟩
theorem ok_NJ_needSheet : vOK y_NJ_needSheet c_NJ_needSheet 2 none 1 := ⟨kw_427, kw_426, ks_26, kw_1, by decide +kernel⟩
theorem d_NJ_needSheet_0 : decode c_NJ_needSheet 0 = .ok (.iload_n 1, 1) := by decide +kernel
theorem d_NJ_needSheet_1 : decode c_NJ_needSheet 1 = .ok (.ifCond .lt 14, 3) := by decide +kernel
theorem d_NJ_needSheet_4 : decode c_NJ_needSheet 4 = .ok (.iload_n 1, 1) := by decide +kernel
theorem d_NJ_needSheet_5 : decode c_NJ_needSheet 5 = .ok (.aload_n 0, 1) := by decide +kernel
theorem d_NJ_needSheet_6 : decode c_NJ_needSheet 6 = .ok (.getfield 12, 3) := by decide +kernel
theorem d_NJ_needSheet_9 : decode c_NJ_needSheet 9 = .ok (.invokevirtual 76, 3) := by decide +kernel
theorem d_NJ_needSheet_12 : decode c_NJ_needSheet 12 = .ok (.if_icmp .lt 14, 3) := by decide +kernel
theorem d_NJ_needSheet_15 : decode c_NJ_needSheet 15 = .ok (.new 217, 3) := by decide +kernel
theorem d_NJ_needSheet_18 : decode c_NJ_needSheet 18 = .ok (.dup, 1) := by decide +kernel
theorem d_NJ_needSheet_19 : decode c_NJ_needSheet 19 = .ok (.ldc_w 282, 3) := by decide +kernel
theorem d_NJ_needSheet_22 : decode c_NJ_needSheet 22 = .ok (.invokespecial 221, 3) := by decide +kernel
theorem d_NJ_needSheet_25 : decode c_NJ_needSheet 25 = .ok (.athrow, 1) := by decide +kernel
theorem d_NJ_needSheet_26 : decode c_NJ_needSheet 26 = .ok (.return_, 1) := by decide +kernel
abbrev c_NJ_needDrawn : ByteArray := prog_1_method_19_code
def y_NJ_needDrawn : MethodName := ⟨"NetJoins", "needDrawn", "(I)V"⟩
theorem ok_NJ_needDrawn : vOK y_NJ_needDrawn c_NJ_needDrawn 2 none 1 := ⟨kw_499, kw_498, ks_28, kw_1, by decide +kernel⟩
theorem d_NJ_needDrawn_0 : decode c_NJ_needDrawn 0 = .ok (.aload_n 0, 1) := by decide +kernel
theorem d_NJ_needDrawn_1 : decode c_NJ_needDrawn 1 = .ok (.iload_n 1, 1) := by decide +kernel
theorem d_NJ_needDrawn_2 : decode c_NJ_needDrawn 2 = .ok (.invokevirtual 69, 3) := by decide +kernel
theorem d_NJ_needDrawn_5 : decode c_NJ_needDrawn 5 = .ok (.aload_n 0, 1) := by decide +kernel
theorem d_NJ_needDrawn_6 : decode c_NJ_needDrawn 6 = .ok (.getfield 12, 3) := by decide +kernel
theorem d_NJ_needDrawn_9 : decode c_NJ_needDrawn 9 = .ok (.iload_n 1, 1) := by decide +kernel
theorem d_NJ_needDrawn_10 : decode c_NJ_needDrawn 10 = .ok (.invokevirtual 172, 3) := by decide +kernel
theorem d_NJ_needDrawn_13 : decode c_NJ_needDrawn 13 = .ok (.checkcast 80, 3) := by decide +kernel
theorem d_NJ_needDrawn_16 : decode c_NJ_needDrawn 16 = .ok (.getfield 202, 3) := by decide +kernel
theorem d_NJ_needDrawn_19 : decode c_NJ_needDrawn 19 = .ok (.iload_n 1, 1) := by decide +kernel
theorem d_NJ_needDrawn_20 : decode c_NJ_needDrawn 20 = .ok (.if_icmp .eq 14, 3) := by decide +kernel
theorem d_NJ_needDrawn_23 : decode c_NJ_needDrawn 23 = .ok (.new 284, 3) := by decide +kernel
theorem d_NJ_needDrawn_26 : decode c_NJ_needDrawn 26 = .ok (.dup, 1) := by decide +kernel
theorem d_NJ_needDrawn_27 : decode c_NJ_needDrawn 27 = .ok (.ldc_w 286, 3) := by decide +kernel
theorem d_NJ_needDrawn_30 : decode c_NJ_needDrawn 30 = .ok (.invokespecial 288, 3) := by decide +kernel
theorem d_NJ_needDrawn_33 : decode c_NJ_needDrawn 33 = .ok (.athrow, 1) := by decide +kernel
theorem d_NJ_needDrawn_34 : decode c_NJ_needDrawn 34 = .ok (.return_, 1) := by decide +kernel
abbrev c_NJ_sheet : ByteArray := prog_1_method_2_code
def y_NJ_sheet : MethodName := ⟨"NetJoins", "sheet", "(II)I"⟩
theorem ok_NJ_sheet : vOK y_NJ_sheet c_NJ_sheet 5 (some .int) 2 := ⟨kw_423, kw_421, kw_422, kw_1, by decide +kernel⟩
theorem d_NJ_sheet_0 : decode c_NJ_sheet 0 = .ok (.iload_n 1, 1) := by decide +kernel
theorem d_NJ_sheet_1 : decode c_NJ_sheet 1 = .ok (.iconst (-1), 1) := by decide +kernel
theorem d_NJ_sheet_2 : decode c_NJ_sheet 2 = .ok (.if_icmp .eq 8, 3) := by decide +kernel
theorem d_NJ_sheet_5 : decode c_NJ_sheet 5 = .ok (.aload_n 0, 1) := by decide +kernel
theorem d_NJ_sheet_6 : decode c_NJ_sheet 6 = .ok (.iload_n 1, 1) := by decide +kernel
theorem d_NJ_sheet_7 : decode c_NJ_sheet 7 = .ok (.invokevirtual 69, 3) := by decide +kernel
theorem d_NJ_sheet_10 : decode c_NJ_sheet 10 = .ok (.iload_n 2, 1) := by decide +kernel
theorem d_NJ_sheet_11 : decode c_NJ_sheet 11 = .ok (.iconst (-1), 1) := by decide +kernel
theorem d_NJ_sheet_12 : decode c_NJ_sheet 12 = .ok (.if_icmp .eq 8, 3) := by decide +kernel
theorem d_NJ_sheet_15 : decode c_NJ_sheet 15 = .ok (.aload_n 0, 1) := by decide +kernel
theorem d_NJ_sheet_16 : decode c_NJ_sheet 16 = .ok (.iload_n 2, 1) := by decide +kernel
theorem d_NJ_sheet_17 : decode c_NJ_sheet 17 = .ok (.invokevirtual 73, 3) := by decide +kernel
theorem d_NJ_sheet_20 : decode c_NJ_sheet 20 = .ok (.aload_n 0, 1) := by decide +kernel
theorem d_NJ_sheet_21 : decode c_NJ_sheet 21 = .ok (.getfield 12, 3) := by decide +kernel
theorem d_NJ_sheet_24 : decode c_NJ_sheet 24 = .ok (.invokevirtual 76, 3) := by decide +kernel
theorem d_NJ_sheet_27 : decode c_NJ_sheet 27 = .ok (.istore_n 3, 1) := by decide +kernel
theorem d_NJ_sheet_28 : decode c_NJ_sheet 28 = .ok (.iload_n 3, 1) := by decide +kernel
theorem d_NJ_sheet_29 : decode c_NJ_sheet 29 = .ok (.bipush 16, 2) := by decide +kernel
theorem d_NJ_sheet_31 : decode c_NJ_sheet 31 = .ok (.if_icmp .lt 5, 3) := by decide +kernel
theorem d_NJ_sheet_34 : decode c_NJ_sheet 34 = .ok (.iconst (-1), 1) := by decide +kernel
theorem d_NJ_sheet_35 : decode c_NJ_sheet 35 = .ok (.ireturn, 1) := by decide +kernel
theorem d_NJ_sheet_36 : decode c_NJ_sheet 36 = .ok (.iload_n 2, 1) := by decide +kernel
theorem d_NJ_sheet_37 : decode c_NJ_sheet 37 = .ok (.iconst (-1), 1) := by decide +kernel
theorem d_NJ_sheet_38 : decode c_NJ_sheet 38 = .ok (.if_icmp .ne 17, 3) := by decide +kernel
theorem d_NJ_sheet_41 : decode c_NJ_sheet 41 = .ok (.new 80, 3) := by decide +kernel
theorem d_NJ_sheet_44 : decode c_NJ_sheet 44 = .ok (.dup, 1) := by decide +kernel
theorem d_NJ_sheet_45 : decode c_NJ_sheet 45 = .ok (.iload_n 3, 1) := by decide +kernel
theorem d_NJ_sheet_46 : decode c_NJ_sheet 46 = .ok (.iload_n 1, 1) := by decide +kernel
theorem d_NJ_sheet_47 : decode c_NJ_sheet 47 = .ok (.iload_n 3, 1) := by decide +kernel
theorem d_NJ_sheet_48 : decode c_NJ_sheet 48 = .ok (.iconst 0, 1) := by decide +kernel
theorem d_NJ_sheet_49 : decode c_NJ_sheet 49 = .ok (.invokespecial 82, 3) := by decide +kernel
theorem d_NJ_sheet_52 : decode c_NJ_sheet 52 = .ok (.goto 10, 3) := by decide +kernel
theorem d_NJ_sheet_55 : decode c_NJ_sheet 55 = .ok (.aload_n 0, 1) := by decide +kernel
theorem d_NJ_sheet_56 : decode c_NJ_sheet 56 = .ok (.iload_n 2, 1) := by decide +kernel
theorem d_NJ_sheet_57 : decode c_NJ_sheet 57 = .ok (.iload_n 3, 1) := by decide +kernel
theorem d_NJ_sheet_58 : decode c_NJ_sheet 58 = .ok (.iload_n 1, 1) := by decide +kernel
theorem d_NJ_sheet_59 : decode c_NJ_sheet 59 = .ok (.invokevirtual 85, 3) := by decide +kernel
theorem d_NJ_sheet_62 : decode c_NJ_sheet 62 = .ok (.astore 4, 2) := by decide +kernel
theorem d_NJ_sheet_64 : decode c_NJ_sheet 64 = .ok (.aload_n 0, 1) := by decide +kernel
theorem d_NJ_sheet_65 : decode c_NJ_sheet 65 = .ok (.getfield 12, 3) := by decide +kernel
theorem d_NJ_sheet_68 : decode c_NJ_sheet 68 = .ok (.aload 4, 2) := by decide +kernel
theorem d_NJ_sheet_70 : decode c_NJ_sheet 70 = .ok (.invokevirtual 89, 3) := by decide +kernel
theorem d_NJ_sheet_73 : decode c_NJ_sheet 73 = .ok (.pop, 1) := by decide +kernel
theorem d_NJ_sheet_74 : decode c_NJ_sheet 74 = .ok (.aload_n 0, 1) := by decide +kernel
theorem d_NJ_sheet_75 : decode c_NJ_sheet 75 = .ok (.getfield 50, 3) := by decide +kernel
theorem d_NJ_sheet_78 : decode c_NJ_sheet 78 = .ok (.iconst 1, 1) := by decide +kernel
theorem d_NJ_sheet_79 : decode c_NJ_sheet 79 = .ok (.iload_n 3, 1) := by decide +kernel
theorem d_NJ_sheet_80 : decode c_NJ_sheet 80 = .ok (.iadd, 1) := by decide +kernel
theorem d_NJ_sheet_81 : decode c_NJ_sheet 81 = .ok (.sipush 900, 3) := by decide +kernel
theorem d_NJ_sheet_84 : decode c_NJ_sheet 84 = .ok (.invokevirtual 93, 3) := by decide +kernel
theorem d_NJ_sheet_87 : decode c_NJ_sheet 87 = .ok (.aload_n 0, 1) := by decide +kernel
theorem d_NJ_sheet_88 : decode c_NJ_sheet 88 = .ok (.aload 4, 2) := by decide +kernel
theorem d_NJ_sheet_90 : decode c_NJ_sheet 90 = .ok (.invokevirtual 96, 3) := by decide +kernel
theorem d_NJ_sheet_93 : decode c_NJ_sheet 93 = .ok (.aload_n 0, 1) := by decide +kernel
theorem d_NJ_sheet_94 : decode c_NJ_sheet 94 = .ok (.aload 4, 2) := by decide +kernel
theorem d_NJ_sheet_96 : decode c_NJ_sheet 96 = .ok (.invokevirtual 100, 3) := by decide +kernel
theorem d_NJ_sheet_99 : decode c_NJ_sheet 99 = .ok (.aload_n 0, 1) := by decide +kernel
theorem d_NJ_sheet_100 : decode c_NJ_sheet 100 = .ok (.invokevirtual 103, 3) := by decide +kernel
theorem d_NJ_sheet_103 : decode c_NJ_sheet 103 = .ok (.iload_n 3, 1) := by decide +kernel
theorem d_NJ_sheet_104 : decode c_NJ_sheet 104 = .ok (.ireturn, 1) := by decide +kernel
abbrev c_NJ_needPlace : ByteArray := prog_1_method_23_code
def y_NJ_needPlace : MethodName := ⟨"NetJoins", "needPlace", "(JJ)V"⟩
theorem ok_NJ_needPlace : sOK y_NJ_needPlace c_NJ_needPlace 4 none 2 := ⟨kw_624, kw_623, kw_1, by decide +kernel⟩
theorem d_NJ_needPlace_0 : decode c_NJ_needPlace 0 = .ok (.lload_n 0, 1) := by decide +kernel
theorem d_NJ_needPlace_1 : decode c_NJ_needPlace 1 = .ok (.ldc2_w 295, 3) := by decide +kernel
theorem d_NJ_needPlace_4 : decode c_NJ_needPlace 4 = .ok (.lcmp, 1) := by decide +kernel
theorem d_NJ_needPlace_5 : decode c_NJ_needPlace 5 = .ok (.ifCond .lt 27, 3) := by decide +kernel
theorem d_NJ_needPlace_8 : decode c_NJ_needPlace 8 = .ok (.lload_n 0, 1) := by decide +kernel
theorem d_NJ_needPlace_9 : decode c_NJ_needPlace 9 = .ok (.ldc2_w 297, 3) := by decide +kernel
theorem d_NJ_needPlace_12 : decode c_NJ_needPlace 12 = .ok (.lcmp, 1) := by decide +kernel
theorem d_NJ_needPlace_13 : decode c_NJ_needPlace 13 = .ok (.ifCond .gt 19, 3) := by decide +kernel
theorem d_NJ_needPlace_16 : decode c_NJ_needPlace 16 = .ok (.lload_n 2, 1) := by decide +kernel
theorem d_NJ_needPlace_17 : decode c_NJ_needPlace 17 = .ok (.ldc2_w 295, 3) := by decide +kernel
theorem d_NJ_needPlace_20 : decode c_NJ_needPlace 20 = .ok (.lcmp, 1) := by decide +kernel
theorem d_NJ_needPlace_21 : decode c_NJ_needPlace 21 = .ok (.ifCond .lt 11, 3) := by decide +kernel
theorem d_NJ_needPlace_24 : decode c_NJ_needPlace 24 = .ok (.lload_n 2, 1) := by decide +kernel
theorem d_NJ_needPlace_25 : decode c_NJ_needPlace 25 = .ok (.ldc2_w 297, 3) := by decide +kernel
theorem d_NJ_needPlace_28 : decode c_NJ_needPlace 28 = .ok (.lcmp, 1) := by decide +kernel
theorem d_NJ_needPlace_29 : decode c_NJ_needPlace 29 = .ok (.ifCond .le 14, 3) := by decide +kernel
theorem d_NJ_needPlace_32 : decode c_NJ_needPlace 32 = .ok (.new 110, 3) := by decide +kernel
theorem d_NJ_needPlace_35 : decode c_NJ_needPlace 35 = .ok (.dup, 1) := by decide +kernel
theorem d_NJ_needPlace_36 : decode c_NJ_needPlace 36 = .ok (.ldc_w 299, 3) := by decide +kernel
theorem d_NJ_needPlace_39 : decode c_NJ_needPlace 39 = .ok (.invokespecial 114, 3) := by decide +kernel
theorem d_NJ_needPlace_42 : decode c_NJ_needPlace 42 = .ok (.athrow, 1) := by decide +kernel
theorem d_NJ_needPlace_43 : decode c_NJ_needPlace 43 = .ok (.return_, 1) := by decide +kernel
abbrev c_NJ_wire : ByteArray := prog_1_method_3_code
def y_NJ_wire : MethodName := ⟨"NetJoins", "wire", "(IJJJJ)I"⟩
theorem ok_NJ_wire : vOK y_NJ_wire c_NJ_wire 12 (some .int) 5 := ⟨kw_621, kw_619, kw_620, kw_1, by decide +kernel⟩
theorem d_NJ_wire_0 : decode c_NJ_wire 0 = .ok (.aload_n 0, 1) := by decide +kernel
theorem d_NJ_wire_1 : decode c_NJ_wire 1 = .ok (.iload_n 1, 1) := by decide +kernel
theorem d_NJ_wire_2 : decode c_NJ_wire 2 = .ok (.invokevirtual 73, 3) := by decide +kernel
theorem d_NJ_wire_5 : decode c_NJ_wire 5 = .ok (.lload_n 2, 1) := by decide +kernel
theorem d_NJ_wire_6 : decode c_NJ_wire 6 = .ok (.lload 4, 2) := by decide +kernel
theorem d_NJ_wire_8 : decode c_NJ_wire 8 = .ok (.invokestatic 106, 3) := by decide +kernel
theorem d_NJ_wire_11 : decode c_NJ_wire 11 = .ok (.lload 6, 2) := by decide +kernel
theorem d_NJ_wire_13 : decode c_NJ_wire 13 = .ok (.lload 8, 2) := by decide +kernel
theorem d_NJ_wire_15 : decode c_NJ_wire 15 = .ok (.invokestatic 106, 3) := by decide +kernel
theorem d_NJ_wire_18 : decode c_NJ_wire 18 = .ok (.lload_n 2, 1) := by decide +kernel
theorem d_NJ_wire_19 : decode c_NJ_wire 19 = .ok (.lload 6, 2) := by decide +kernel
theorem d_NJ_wire_21 : decode c_NJ_wire 21 = .ok (.lcmp, 1) := by decide +kernel
theorem d_NJ_wire_22 : decode c_NJ_wire 22 = .ok (.ifCond .ne 21, 3) := by decide +kernel
theorem d_NJ_wire_25 : decode c_NJ_wire 25 = .ok (.lload 4, 2) := by decide +kernel
theorem d_NJ_wire_27 : decode c_NJ_wire 27 = .ok (.lload 8, 2) := by decide +kernel
theorem d_NJ_wire_29 : decode c_NJ_wire 29 = .ok (.lcmp, 1) := by decide +kernel
theorem d_NJ_wire_30 : decode c_NJ_wire 30 = .ok (.ifCond .ne 13, 3) := by decide +kernel
theorem d_NJ_wire_33 : decode c_NJ_wire 33 = .ok (.new 110, 3) := by decide +kernel
theorem d_NJ_wire_36 : decode c_NJ_wire 36 = .ok (.dup, 1) := by decide +kernel
theorem d_NJ_wire_37 : decode c_NJ_wire 37 = .ok (.ldc 112, 2) := by decide +kernel
theorem d_NJ_wire_39 : decode c_NJ_wire 39 = .ok (.invokespecial 114, 3) := by decide +kernel
theorem d_NJ_wire_42 : decode c_NJ_wire 42 = .ok (.athrow, 1) := by decide +kernel
theorem d_NJ_wire_43 : decode c_NJ_wire 43 = .ok (.aload_n 0, 1) := by decide +kernel
theorem d_NJ_wire_44 : decode c_NJ_wire 44 = .ok (.getfield 16, 3) := by decide +kernel
theorem d_NJ_wire_47 : decode c_NJ_wire 47 = .ok (.invokevirtual 76, 3) := by decide +kernel
theorem d_NJ_wire_50 : decode c_NJ_wire 50 = .ok (.istore 10, 2) := by decide +kernel
theorem d_NJ_wire_52 : decode c_NJ_wire 52 = .ok (.iload 10, 2) := by decide +kernel
theorem d_NJ_wire_54 : decode c_NJ_wire 54 = .ok (.bipush 100, 2) := by decide +kernel
theorem d_NJ_wire_56 : decode c_NJ_wire 56 = .ok (.if_icmp .lt 5, 3) := by decide +kernel
theorem d_NJ_wire_59 : decode c_NJ_wire 59 = .ok (.iconst (-1), 1) := by decide +kernel
theorem d_NJ_wire_60 : decode c_NJ_wire 60 = .ok (.ireturn, 1) := by decide +kernel
theorem d_NJ_wire_61 : decode c_NJ_wire 61 = .ok (.new 117, 3) := by decide +kernel
theorem d_NJ_wire_64 : decode c_NJ_wire 64 = .ok (.dup, 1) := by decide +kernel
theorem d_NJ_wire_65 : decode c_NJ_wire 65 = .ok (.iload_n 1, 1) := by decide +kernel
theorem d_NJ_wire_66 : decode c_NJ_wire 66 = .ok (.iload 10, 2) := by decide +kernel
theorem d_NJ_wire_68 : decode c_NJ_wire 68 = .ok (.lload_n 2, 1) := by decide +kernel
theorem d_NJ_wire_69 : decode c_NJ_wire 69 = .ok (.lload 4, 2) := by decide +kernel
theorem d_NJ_wire_71 : decode c_NJ_wire 71 = .ok (.lload 6, 2) := by decide +kernel
theorem d_NJ_wire_73 : decode c_NJ_wire 73 = .ok (.lload 8, 2) := by decide +kernel
theorem d_NJ_wire_75 : decode c_NJ_wire 75 = .ok (.invokespecial 119, 3) := by decide +kernel
theorem d_NJ_wire_78 : decode c_NJ_wire 78 = .ok (.astore 11, 2) := by decide +kernel
theorem d_NJ_wire_80 : decode c_NJ_wire 80 = .ok (.aload_n 0, 1) := by decide +kernel
theorem d_NJ_wire_81 : decode c_NJ_wire 81 = .ok (.getfield 16, 3) := by decide +kernel
theorem d_NJ_wire_84 : decode c_NJ_wire 84 = .ok (.aload 11, 2) := by decide +kernel
theorem d_NJ_wire_86 : decode c_NJ_wire 86 = .ok (.invokevirtual 89, 3) := by decide +kernel
theorem d_NJ_wire_89 : decode c_NJ_wire 89 = .ok (.pop, 1) := by decide +kernel
theorem d_NJ_wire_90 : decode c_NJ_wire 90 = .ok (.aload_n 0, 1) := by decide +kernel
theorem d_NJ_wire_91 : decode c_NJ_wire 91 = .ok (.aload 11, 2) := by decide +kernel
theorem d_NJ_wire_93 : decode c_NJ_wire 93 = .ok (.invokevirtual 122, 3) := by decide +kernel
theorem d_NJ_wire_96 : decode c_NJ_wire 96 = .ok (.aload_n 0, 1) := by decide +kernel
theorem d_NJ_wire_97 : decode c_NJ_wire 97 = .ok (.aload 11, 2) := by decide +kernel
theorem d_NJ_wire_99 : decode c_NJ_wire 99 = .ok (.invokevirtual 126, 3) := by decide +kernel
theorem d_NJ_wire_102 : decode c_NJ_wire 102 = .ok (.aload_n 0, 1) := by decide +kernel
theorem d_NJ_wire_103 : decode c_NJ_wire 103 = .ok (.aload 11, 2) := by decide +kernel
theorem d_NJ_wire_105 : decode c_NJ_wire 105 = .ok (.aload_n 0, 1) := by decide +kernel
theorem d_NJ_wire_106 : decode c_NJ_wire 106 = .ok (.getfield 22, 3) := by decide +kernel
theorem d_NJ_wire_109 : decode c_NJ_wire 109 = .ok (.invokevirtual 129, 3) := by decide +kernel
theorem d_NJ_wire_112 : decode c_NJ_wire 112 = .ok (.aload_n 0, 1) := by decide +kernel
theorem d_NJ_wire_113 : decode c_NJ_wire 113 = .ok (.aload 11, 2) := by decide +kernel
theorem d_NJ_wire_115 : decode c_NJ_wire 115 = .ok (.aload_n 0, 1) := by decide +kernel
theorem d_NJ_wire_116 : decode c_NJ_wire 116 = .ok (.getfield 28, 3) := by decide +kernel
theorem d_NJ_wire_119 : decode c_NJ_wire 119 = .ok (.invokevirtual 129, 3) := by decide +kernel
theorem d_NJ_wire_122 : decode c_NJ_wire 122 = .ok (.aload_n 0, 1) := by decide +kernel
theorem d_NJ_wire_123 : decode c_NJ_wire 123 = .ok (.iload_n 1, 1) := by decide +kernel
theorem d_NJ_wire_124 : decode c_NJ_wire 124 = .ok (.invokevirtual 133, 3) := by decide +kernel
theorem d_NJ_wire_127 : decode c_NJ_wire 127 = .ok (.aload_n 0, 1) := by decide +kernel
theorem d_NJ_wire_128 : decode c_NJ_wire 128 = .ok (.invokevirtual 103, 3) := by decide +kernel
theorem d_NJ_wire_131 : decode c_NJ_wire 131 = .ok (.iload 10, 2) := by decide +kernel
theorem d_NJ_wire_133 : decode c_NJ_wire 133 = .ok (.ireturn, 1) := by decide +kernel
abbrev c_NJ_junction : ByteArray := prog_1_method_4_code
def y_NJ_junction : MethodName := ⟨"NetJoins", "junction", "(IJJ)Z"⟩
theorem ok_NJ_junction : vOK y_NJ_junction c_NJ_junction 7 (some .boolean) 3 := ⟨kw_692, kw_690, kw_691, kw_1, by decide +kernel⟩
theorem d_NJ_junction_0 : decode c_NJ_junction 0 = .ok (.aload_n 0, 1) := by decide +kernel
theorem d_NJ_junction_1 : decode c_NJ_junction 1 = .ok (.iload_n 1, 1) := by decide +kernel
theorem d_NJ_junction_2 : decode c_NJ_junction 2 = .ok (.invokevirtual 73, 3) := by decide +kernel
theorem d_NJ_junction_5 : decode c_NJ_junction 5 = .ok (.lload_n 2, 1) := by decide +kernel
theorem d_NJ_junction_6 : decode c_NJ_junction 6 = .ok (.lload 4, 2) := by decide +kernel
theorem d_NJ_junction_8 : decode c_NJ_junction 8 = .ok (.invokestatic 106, 3) := by decide +kernel
theorem d_NJ_junction_11 : decode c_NJ_junction 11 = .ok (.aload_n 0, 1) := by decide +kernel
theorem d_NJ_junction_12 : decode c_NJ_junction 12 = .ok (.getfield 19, 3) := by decide +kernel
theorem d_NJ_junction_15 : decode c_NJ_junction 15 = .ok (.invokevirtual 76, 3) := by decide +kernel
theorem d_NJ_junction_18 : decode c_NJ_junction 18 = .ok (.bipush 50, 2) := by decide +kernel
theorem d_NJ_junction_20 : decode c_NJ_junction 20 = .ok (.if_icmp .ge 17, 3) := by decide +kernel
theorem d_NJ_junction_23 : decode c_NJ_junction 23 = .ok (.aload_n 0, 1) := by decide +kernel
theorem d_NJ_junction_24 : decode c_NJ_junction 24 = .ok (.getfield 19, 3) := by decide +kernel
theorem d_NJ_junction_27 : decode c_NJ_junction 27 = .ok (.iload_n 1, 1) := by decide +kernel
theorem d_NJ_junction_28 : decode c_NJ_junction 28 = .ok (.lload_n 2, 1) := by decide +kernel
theorem d_NJ_junction_29 : decode c_NJ_junction 29 = .ok (.lload 4, 2) := by decide +kernel
theorem d_NJ_junction_31 : decode c_NJ_junction 31 = .ok (.invokestatic 136, 3) := by decide +kernel
theorem d_NJ_junction_34 : decode c_NJ_junction 34 = .ok (.ifCond .eq 5, 3) := by decide +kernel
theorem d_NJ_junction_37 : decode c_NJ_junction 37 = .ok (.iconst 0, 1) := by decide +kernel
theorem d_NJ_junction_38 : decode c_NJ_junction 38 = .ok (.ireturn, 1) := by decide +kernel
theorem d_NJ_junction_39 : decode c_NJ_junction 39 = .ok (.new 140, 3) := by decide +kernel
theorem d_NJ_junction_42 : decode c_NJ_junction 42 = .ok (.dup, 1) := by decide +kernel
theorem d_NJ_junction_43 : decode c_NJ_junction 43 = .ok (.iload_n 1, 1) := by decide +kernel
theorem d_NJ_junction_44 : decode c_NJ_junction 44 = .ok (.lload_n 2, 1) := by decide +kernel
theorem d_NJ_junction_45 : decode c_NJ_junction 45 = .ok (.lload 4, 2) := by decide +kernel
theorem d_NJ_junction_47 : decode c_NJ_junction 47 = .ok (.iconst (-1), 1) := by decide +kernel
theorem d_NJ_junction_48 : decode c_NJ_junction 48 = .ok (.iconst (-1), 1) := by decide +kernel
theorem d_NJ_junction_49 : decode c_NJ_junction 49 = .ok (.invokespecial 142, 3) := by decide +kernel
theorem d_NJ_junction_52 : decode c_NJ_junction 52 = .ok (.astore 6, 2) := by decide +kernel
theorem d_NJ_junction_54 : decode c_NJ_junction 54 = .ok (.aload_n 0, 1) := by decide +kernel
theorem d_NJ_junction_55 : decode c_NJ_junction 55 = .ok (.getfield 19, 3) := by decide +kernel
theorem d_NJ_junction_58 : decode c_NJ_junction 58 = .ok (.aload 6, 2) := by decide +kernel
theorem d_NJ_junction_60 : decode c_NJ_junction 60 = .ok (.invokevirtual 89, 3) := by decide +kernel
theorem d_NJ_junction_63 : decode c_NJ_junction 63 = .ok (.pop, 1) := by decide +kernel
theorem d_NJ_junction_64 : decode c_NJ_junction 64 = .ok (.aload_n 0, 1) := by decide +kernel
theorem d_NJ_junction_65 : decode c_NJ_junction 65 = .ok (.aload 6, 2) := by decide +kernel
theorem d_NJ_junction_67 : decode c_NJ_junction 67 = .ok (.invokevirtual 145, 3) := by decide +kernel
theorem d_NJ_junction_70 : decode c_NJ_junction 70 = .ok (.aload_n 0, 1) := by decide +kernel
theorem d_NJ_junction_71 : decode c_NJ_junction 71 = .ok (.iload_n 1, 1) := by decide +kernel
theorem d_NJ_junction_72 : decode c_NJ_junction 72 = .ok (.invokevirtual 133, 3) := by decide +kernel
theorem d_NJ_junction_75 : decode c_NJ_junction 75 = .ok (.aload_n 0, 1) := by decide +kernel
theorem d_NJ_junction_76 : decode c_NJ_junction 76 = .ok (.invokevirtual 103, 3) := by decide +kernel
theorem d_NJ_junction_79 : decode c_NJ_junction 79 = .ok (.iconst 1, 1) := by decide +kernel
theorem d_NJ_junction_80 : decode c_NJ_junction 80 = .ok (.ireturn, 1) := by decide +kernel
abbrev c_NJ_needName : ByteArray := prog_1_method_24_code
def y_NJ_needName : MethodName := ⟨"NetJoins", "needName", "(I)V"⟩
theorem ok_NJ_needName : sOK y_NJ_needName c_NJ_needName 1 none 1 := ⟨kw_734, kw_733, kw_1, by decide +kernel⟩
theorem d_NJ_needName_0 : decode c_NJ_needName 0 = .ok (.iload_n 0, 1) := by decide +kernel
theorem d_NJ_needName_1 : decode c_NJ_needName 1 = .ok (.ifCond .lt 10, 3) := by decide +kernel
theorem d_NJ_needName_4 : decode c_NJ_needName 4 = .ok (.iload_n 0, 1) := by decide +kernel
theorem d_NJ_needName_5 : decode c_NJ_needName 5 = .ok (.sipush 1000, 3) := by decide +kernel
theorem d_NJ_needName_8 : decode c_NJ_needName 8 = .ok (.if_icmp .lt 14, 3) := by decide +kernel
theorem d_NJ_needName_11 : decode c_NJ_needName 11 = .ok (.new 110, 3) := by decide +kernel
theorem d_NJ_needName_14 : decode c_NJ_needName 14 = .ok (.dup, 1) := by decide +kernel
theorem d_NJ_needName_15 : decode c_NJ_needName 15 = .ok (.ldc_w 301, 3) := by decide +kernel
theorem d_NJ_needName_18 : decode c_NJ_needName 18 = .ok (.invokespecial 114, 3) := by decide +kernel
theorem d_NJ_needName_21 : decode c_NJ_needName 21 = .ok (.athrow, 1) := by decide +kernel
theorem d_NJ_needName_22 : decode c_NJ_needName 22 = .ok (.return_, 1) := by decide +kernel
abbrev c_NJ_label : ByteArray := prog_1_method_5_code
def y_NJ_label : MethodName := ⟨"NetJoins", "label", "(IJJI)I"⟩
theorem ok_NJ_label : vOK y_NJ_label c_NJ_label 9 (some .int) 4 := ⟨kw_731, kw_729, kw_730, kw_1, by decide +kernel⟩
theorem d_NJ_label_0 : decode c_NJ_label 0 = .ok (.aload_n 0, 1) := by decide +kernel
theorem d_NJ_label_1 : decode c_NJ_label 1 = .ok (.iload_n 1, 1) := by decide +kernel
theorem d_NJ_label_2 : decode c_NJ_label 2 = .ok (.invokevirtual 73, 3) := by decide +kernel
theorem d_NJ_label_5 : decode c_NJ_label 5 = .ok (.lload_n 2, 1) := by decide +kernel
theorem d_NJ_label_6 : decode c_NJ_label 6 = .ok (.lload 4, 2) := by decide +kernel
theorem d_NJ_label_8 : decode c_NJ_label 8 = .ok (.invokestatic 106, 3) := by decide +kernel
theorem d_NJ_label_11 : decode c_NJ_label 11 = .ok (.iload 6, 2) := by decide +kernel
theorem d_NJ_label_13 : decode c_NJ_label 13 = .ok (.invokestatic 149, 3) := by decide +kernel
theorem d_NJ_label_16 : decode c_NJ_label 16 = .ok (.aload_n 0, 1) := by decide +kernel
theorem d_NJ_label_17 : decode c_NJ_label 17 = .ok (.getfield 22, 3) := by decide +kernel
theorem d_NJ_label_20 : decode c_NJ_label 20 = .ok (.invokevirtual 76, 3) := by decide +kernel
theorem d_NJ_label_23 : decode c_NJ_label 23 = .ok (.istore 7, 2) := by decide +kernel
theorem d_NJ_label_25 : decode c_NJ_label 25 = .ok (.iload 7, 2) := by decide +kernel
theorem d_NJ_label_27 : decode c_NJ_label 27 = .ok (.bipush 60, 2) := by decide +kernel
theorem d_NJ_label_29 : decode c_NJ_label 29 = .ok (.if_icmp .lt 5, 3) := by decide +kernel
theorem d_NJ_label_32 : decode c_NJ_label 32 = .ok (.iconst (-1), 1) := by decide +kernel
theorem d_NJ_label_33 : decode c_NJ_label 33 = .ok (.ireturn, 1) := by decide +kernel
theorem d_NJ_label_34 : decode c_NJ_label 34 = .ok (.new 140, 3) := by decide +kernel
theorem d_NJ_label_37 : decode c_NJ_label 37 = .ok (.dup, 1) := by decide +kernel
theorem d_NJ_label_38 : decode c_NJ_label 38 = .ok (.iload_n 1, 1) := by decide +kernel
theorem d_NJ_label_39 : decode c_NJ_label 39 = .ok (.lload_n 2, 1) := by decide +kernel
theorem d_NJ_label_40 : decode c_NJ_label 40 = .ok (.lload 4, 2) := by decide +kernel
theorem d_NJ_label_42 : decode c_NJ_label 42 = .ok (.iload 6, 2) := by decide +kernel
theorem d_NJ_label_44 : decode c_NJ_label 44 = .ok (.bipush 60, 2) := by decide +kernel
theorem d_NJ_label_46 : decode c_NJ_label 46 = .ok (.iload 7, 2) := by decide +kernel
theorem d_NJ_label_48 : decode c_NJ_label 48 = .ok (.iadd, 1) := by decide +kernel
theorem d_NJ_label_49 : decode c_NJ_label 49 = .ok (.invokespecial 142, 3) := by decide +kernel
theorem d_NJ_label_52 : decode c_NJ_label 52 = .ok (.astore 8, 2) := by decide +kernel
theorem d_NJ_label_54 : decode c_NJ_label 54 = .ok (.aload_n 0, 1) := by decide +kernel
theorem d_NJ_label_55 : decode c_NJ_label 55 = .ok (.getfield 22, 3) := by decide +kernel
theorem d_NJ_label_58 : decode c_NJ_label 58 = .ok (.aload 8, 2) := by decide +kernel
theorem d_NJ_label_60 : decode c_NJ_label 60 = .ok (.invokevirtual 89, 3) := by decide +kernel
theorem d_NJ_label_63 : decode c_NJ_label 63 = .ok (.pop, 1) := by decide +kernel
theorem d_NJ_label_64 : decode c_NJ_label 64 = .ok (.aload_n 0, 1) := by decide +kernel
theorem d_NJ_label_65 : decode c_NJ_label 65 = .ok (.aload 8, 2) := by decide +kernel
theorem d_NJ_label_67 : decode c_NJ_label 67 = .ok (.invokevirtual 152, 3) := by decide +kernel
theorem d_NJ_label_70 : decode c_NJ_label 70 = .ok (.aload_n 0, 1) := by decide +kernel
theorem d_NJ_label_71 : decode c_NJ_label 71 = .ok (.aload 8, 2) := by decide +kernel
theorem d_NJ_label_73 : decode c_NJ_label 73 = .ok (.invokevirtual 155, 3) := by decide +kernel
theorem d_NJ_label_76 : decode c_NJ_label 76 = .ok (.aload_n 0, 1) := by decide +kernel
theorem d_NJ_label_77 : decode c_NJ_label 77 = .ok (.iload_n 1, 1) := by decide +kernel
theorem d_NJ_label_78 : decode c_NJ_label 78 = .ok (.invokevirtual 133, 3) := by decide +kernel
theorem d_NJ_label_81 : decode c_NJ_label 81 = .ok (.aload_n 0, 1) := by decide +kernel
theorem d_NJ_label_82 : decode c_NJ_label 82 = .ok (.invokevirtual 103, 3) := by decide +kernel
theorem d_NJ_label_85 : decode c_NJ_label 85 = .ok (.iload 7, 2) := by decide +kernel
theorem d_NJ_label_87 : decode c_NJ_label 87 = .ok (.ireturn, 1) := by decide +kernel
abbrev c_NJ_pin : ByteArray := prog_1_method_6_code
def y_NJ_pin : MethodName := ⟨"NetJoins", "pin", "(IJJI)I"⟩
theorem ok_NJ_pin : vOK y_NJ_pin c_NJ_pin 9 (some .int) 4 := ⟨kw_992, kw_990, kw_991, kw_1, by decide +kernel⟩
theorem d_NJ_pin_0 : decode c_NJ_pin 0 = .ok (.aload_n 0, 1) := by decide +kernel
theorem d_NJ_pin_1 : decode c_NJ_pin 1 = .ok (.iload_n 1, 1) := by decide +kernel
theorem d_NJ_pin_2 : decode c_NJ_pin 2 = .ok (.invokevirtual 73, 3) := by decide +kernel
theorem d_NJ_pin_5 : decode c_NJ_pin 5 = .ok (.lload_n 2, 1) := by decide +kernel
theorem d_NJ_pin_6 : decode c_NJ_pin 6 = .ok (.lload 4, 2) := by decide +kernel
theorem d_NJ_pin_8 : decode c_NJ_pin 8 = .ok (.invokestatic 106, 3) := by decide +kernel
theorem d_NJ_pin_11 : decode c_NJ_pin 11 = .ok (.aload_n 0, 1) := by decide +kernel
theorem d_NJ_pin_12 : decode c_NJ_pin 12 = .ok (.getfield 28, 3) := by decide +kernel
theorem d_NJ_pin_15 : decode c_NJ_pin 15 = .ok (.invokevirtual 76, 3) := by decide +kernel
theorem d_NJ_pin_18 : decode c_NJ_pin 18 = .ok (.istore 7, 2) := by decide +kernel
theorem d_NJ_pin_20 : decode c_NJ_pin 20 = .ok (.iload 7, 2) := by decide +kernel
theorem d_NJ_pin_22 : decode c_NJ_pin 22 = .ok (.bipush 60, 2) := by decide +kernel
theorem d_NJ_pin_24 : decode c_NJ_pin 24 = .ok (.if_icmp .ge 16, 3) := by decide +kernel
theorem d_NJ_pin_27 : decode c_NJ_pin 27 = .ok (.aload_n 0, 1) := by decide +kernel
theorem d_NJ_pin_28 : decode c_NJ_pin 28 = .ok (.iload 6, 2) := by decide +kernel
theorem d_NJ_pin_30 : decode c_NJ_pin 30 = .ok (.iload_n 1, 1) := by decide +kernel
theorem d_NJ_pin_31 : decode c_NJ_pin 31 = .ok (.lload_n 2, 1) := by decide +kernel
theorem d_NJ_pin_32 : decode c_NJ_pin 32 = .ok (.lload 4, 2) := by decide +kernel
theorem d_NJ_pin_34 : decode c_NJ_pin 34 = .ok (.invokevirtual 158, 3) := by decide +kernel
theorem d_NJ_pin_37 : decode c_NJ_pin 37 = .ok (.ifCond .eq 5, 3) := by decide +kernel
theorem d_NJ_pin_40 : decode c_NJ_pin 40 = .ok (.iconst (-1), 1) := by decide +kernel
theorem d_NJ_pin_41 : decode c_NJ_pin 41 = .ok (.ireturn, 1) := by decide +kernel
theorem d_NJ_pin_42 : decode c_NJ_pin 42 = .ok (.new 140, 3) := by decide +kernel
theorem d_NJ_pin_45 : decode c_NJ_pin 45 = .ok (.dup, 1) := by decide +kernel
theorem d_NJ_pin_46 : decode c_NJ_pin 46 = .ok (.iload_n 1, 1) := by decide +kernel
theorem d_NJ_pin_47 : decode c_NJ_pin 47 = .ok (.lload_n 2, 1) := by decide +kernel
theorem d_NJ_pin_48 : decode c_NJ_pin 48 = .ok (.lload 4, 2) := by decide +kernel
theorem d_NJ_pin_50 : decode c_NJ_pin 50 = .ok (.iload 6, 2) := by decide +kernel
theorem d_NJ_pin_52 : decode c_NJ_pin 52 = .ok (.iload 7, 2) := by decide +kernel
theorem d_NJ_pin_54 : decode c_NJ_pin 54 = .ok (.invokespecial 142, 3) := by decide +kernel
theorem d_NJ_pin_57 : decode c_NJ_pin 57 = .ok (.astore 8, 2) := by decide +kernel
theorem d_NJ_pin_59 : decode c_NJ_pin 59 = .ok (.aload_n 0, 1) := by decide +kernel
theorem d_NJ_pin_60 : decode c_NJ_pin 60 = .ok (.getfield 28, 3) := by decide +kernel
theorem d_NJ_pin_63 : decode c_NJ_pin 63 = .ok (.aload 8, 2) := by decide +kernel
theorem d_NJ_pin_65 : decode c_NJ_pin 65 = .ok (.invokevirtual 89, 3) := by decide +kernel
theorem d_NJ_pin_68 : decode c_NJ_pin 68 = .ok (.pop, 1) := by decide +kernel
theorem d_NJ_pin_69 : decode c_NJ_pin 69 = .ok (.aload_n 0, 1) := by decide +kernel
theorem d_NJ_pin_70 : decode c_NJ_pin 70 = .ok (.aload 8, 2) := by decide +kernel
theorem d_NJ_pin_72 : decode c_NJ_pin 72 = .ok (.invokevirtual 155, 3) := by decide +kernel
theorem d_NJ_pin_75 : decode c_NJ_pin 75 = .ok (.aload_n 0, 1) := by decide +kernel
theorem d_NJ_pin_76 : decode c_NJ_pin 76 = .ok (.iload_n 1, 1) := by decide +kernel
theorem d_NJ_pin_77 : decode c_NJ_pin 77 = .ok (.invokevirtual 133, 3) := by decide +kernel
theorem d_NJ_pin_80 : decode c_NJ_pin 80 = .ok (.aload_n 0, 1) := by decide +kernel
theorem d_NJ_pin_81 : decode c_NJ_pin 81 = .ok (.invokevirtual 103, 3) := by decide +kernel
theorem d_NJ_pin_84 : decode c_NJ_pin 84 = .ok (.iload 7, 2) := by decide +kernel
theorem d_NJ_pin_86 : decode c_NJ_pin 86 = .ok (.ireturn, 1) := by decide +kernel
abbrev c_NJ_needLabelOn : ByteArray := prog_1_method_21_code
def y_NJ_needLabelOn : MethodName := ⟨"NetJoins", "needLabelOn", "(II)V"⟩
theorem ok_NJ_needLabelOn : vOK y_NJ_needLabelOn c_NJ_needLabelOn 3 none 2 := ⟨kw_1007, kw_1006, ks_41, kw_1, by decide +kernel⟩
theorem d_NJ_needLabelOn_0 : decode c_NJ_needLabelOn 0 = .ok (.iload_n 2, 1) := by decide +kernel
theorem d_NJ_needLabelOn_1 : decode c_NJ_needLabelOn 1 = .ok (.ifCond .lt 45, 3) := by decide +kernel
theorem d_NJ_needLabelOn_4 : decode c_NJ_needLabelOn 4 = .ok (.iload_n 2, 1) := by decide +kernel
theorem d_NJ_needLabelOn_5 : decode c_NJ_needLabelOn 5 = .ok (.aload_n 0, 1) := by decide +kernel
theorem d_NJ_needLabelOn_6 : decode c_NJ_needLabelOn 6 = .ok (.getfield 22, 3) := by decide +kernel
theorem d_NJ_needLabelOn_9 : decode c_NJ_needLabelOn 9 = .ok (.invokevirtual 76, 3) := by decide +kernel
theorem d_NJ_needLabelOn_12 : decode c_NJ_needLabelOn 12 = .ok (.if_icmp .ge 34, 3) := by decide +kernel
theorem d_NJ_needLabelOn_15 : decode c_NJ_needLabelOn 15 = .ok (.aload_n 0, 1) := by decide +kernel
theorem d_NJ_needLabelOn_16 : decode c_NJ_needLabelOn 16 = .ok (.getfield 22, 3) := by decide +kernel
theorem d_NJ_needLabelOn_19 : decode c_NJ_needLabelOn 19 = .ok (.iload_n 2, 1) := by decide +kernel
theorem d_NJ_needLabelOn_20 : decode c_NJ_needLabelOn 20 = .ok (.invokevirtual 172, 3) := by decide +kernel
theorem d_NJ_needLabelOn_23 : decode c_NJ_needLabelOn 23 = .ok (.checkcast 140, 3) := by decide +kernel
theorem d_NJ_needLabelOn_26 : decode c_NJ_needLabelOn 26 = .ok (.getfield 237, 3) := by decide +kernel
theorem d_NJ_needLabelOn_29 : decode c_NJ_needLabelOn 29 = .ok (.aload_n 0, 1) := by decide +kernel
theorem d_NJ_needLabelOn_30 : decode c_NJ_needLabelOn 30 = .ok (.getfield 12, 3) := by decide +kernel
theorem d_NJ_needLabelOn_33 : decode c_NJ_needLabelOn 33 = .ok (.iload_n 1, 1) := by decide +kernel
theorem d_NJ_needLabelOn_34 : decode c_NJ_needLabelOn 34 = .ok (.invokevirtual 172, 3) := by decide +kernel
theorem d_NJ_needLabelOn_37 : decode c_NJ_needLabelOn 37 = .ok (.checkcast 80, 3) := by decide +kernel
theorem d_NJ_needLabelOn_40 : decode c_NJ_needLabelOn 40 = .ok (.getfield 202, 3) := by decide +kernel
theorem d_NJ_needLabelOn_43 : decode c_NJ_needLabelOn 43 = .ok (.if_icmp .eq 14, 3) := by decide +kernel
theorem d_NJ_needLabelOn_46 : decode c_NJ_needLabelOn 46 = .ok (.new 217, 3) := by decide +kernel
theorem d_NJ_needLabelOn_49 : decode c_NJ_needLabelOn 49 = .ok (.dup, 1) := by decide +kernel
theorem d_NJ_needLabelOn_50 : decode c_NJ_needLabelOn 50 = .ok (.ldc_w 291, 3) := by decide +kernel
theorem d_NJ_needLabelOn_53 : decode c_NJ_needLabelOn 53 = .ok (.invokespecial 221, 3) := by decide +kernel
theorem d_NJ_needLabelOn_56 : decode c_NJ_needLabelOn 56 = .ok (.athrow, 1) := by decide +kernel
theorem d_NJ_needLabelOn_57 : decode c_NJ_needLabelOn 57 = .ok (.return_, 1) := by decide +kernel
abbrev c_NJ_needParent : ByteArray := prog_1_method_20_code
def y_NJ_needParent : MethodName := ⟨"NetJoins", "needParent", "(I)V"⟩
theorem ok_NJ_needParent : vOK y_NJ_needParent c_NJ_needParent 2 none 1 := ⟨kw_1012, kw_1011, ks_42, kw_1, by decide +kernel⟩
theorem d_NJ_needParent_0 : decode c_NJ_needParent 0 = .ok (.aload_n 0, 1) := by decide +kernel
theorem d_NJ_needParent_1 : decode c_NJ_needParent 1 = .ok (.getfield 12, 3) := by decide +kernel
theorem d_NJ_needParent_4 : decode c_NJ_needParent 4 = .ok (.iload_n 1, 1) := by decide +kernel
theorem d_NJ_needParent_5 : decode c_NJ_needParent 5 = .ok (.invokevirtual 172, 3) := by decide +kernel
theorem d_NJ_needParent_8 : decode c_NJ_needParent 8 = .ok (.checkcast 80, 3) := by decide +kernel
theorem d_NJ_needParent_11 : decode c_NJ_needParent 11 = .ok (.getfield 184, 3) := by decide +kernel
theorem d_NJ_needParent_14 : decode c_NJ_needParent 14 = .ok (.iconst (-1), 1) := by decide +kernel
theorem d_NJ_needParent_15 : decode c_NJ_needParent 15 = .ok (.if_icmp .ne 14, 3) := by decide +kernel
theorem d_NJ_needParent_18 : decode c_NJ_needParent 18 = .ok (.new 284, 3) := by decide +kernel
theorem d_NJ_needParent_21 : decode c_NJ_needParent 21 = .ok (.dup, 1) := by decide +kernel
theorem d_NJ_needParent_22 : decode c_NJ_needParent 22 = .ok (.ldc_w 289, 3) := by decide +kernel
theorem d_NJ_needParent_25 : decode c_NJ_needParent 25 = .ok (.invokespecial 288, 3) := by decide +kernel
theorem d_NJ_needParent_28 : decode c_NJ_needParent 28 = .ok (.athrow, 1) := by decide +kernel
theorem d_NJ_needParent_29 : decode c_NJ_needParent 29 = .ok (.return_, 1) := by decide +kernel
abbrev c_NJ_port : ByteArray := prog_1_method_7_code
def y_NJ_port : MethodName := ⟨"NetJoins", "port", "(III)Z"⟩
theorem ok_NJ_port : vOK y_NJ_port c_NJ_port 6 (some .boolean) 3 := ⟨kw_1003, kw_1001, kw_1002, kw_1, by decide +kernel⟩
theorem d_NJ_port_0 : decode c_NJ_port 0 = .ok (.aload_n 0, 1) := by decide +kernel
theorem d_NJ_port_1 : decode c_NJ_port 1 = .ok (.iload_n 1, 1) := by decide +kernel
theorem d_NJ_port_2 : decode c_NJ_port 2 = .ok (.invokevirtual 69, 3) := by decide +kernel
theorem d_NJ_port_5 : decode c_NJ_port 5 = .ok (.aload_n 0, 1) := by decide +kernel
theorem d_NJ_port_6 : decode c_NJ_port 6 = .ok (.iload_n 1, 1) := by decide +kernel
theorem d_NJ_port_7 : decode c_NJ_port 7 = .ok (.iload_n 2, 1) := by decide +kernel
theorem d_NJ_port_8 : decode c_NJ_port 8 = .ok (.invokevirtual 162, 3) := by decide +kernel
theorem d_NJ_port_11 : decode c_NJ_port 11 = .ok (.aload_n 0, 1) := by decide +kernel
theorem d_NJ_port_12 : decode c_NJ_port 12 = .ok (.iload_n 1, 1) := by decide +kernel
theorem d_NJ_port_13 : decode c_NJ_port 13 = .ok (.invokevirtual 165, 3) := by decide +kernel
theorem d_NJ_port_16 : decode c_NJ_port 16 = .ok (.iload_n 3, 1) := by decide +kernel
theorem d_NJ_port_17 : decode c_NJ_port 17 = .ok (.invokestatic 149, 3) := by decide +kernel
theorem d_NJ_port_20 : decode c_NJ_port 20 = .ok (.aload_n 0, 1) := by decide +kernel
theorem d_NJ_port_21 : decode c_NJ_port 21 = .ok (.getfield 31, 3) := by decide +kernel
theorem d_NJ_port_24 : decode c_NJ_port 24 = .ok (.invokevirtual 76, 3) := by decide +kernel
theorem d_NJ_port_27 : decode c_NJ_port 27 = .ok (.bipush 30, 2) := by decide +kernel
theorem d_NJ_port_29 : decode c_NJ_port 29 = .ok (.if_icmp .ge 13, 3) := by decide +kernel
theorem d_NJ_port_32 : decode c_NJ_port 32 = .ok (.aload_n 0, 1) := by decide +kernel
theorem d_NJ_port_33 : decode c_NJ_port 33 = .ok (.iload_n 1, 1) := by decide +kernel
theorem d_NJ_port_34 : decode c_NJ_port 34 = .ok (.iload_n 2, 1) := by decide +kernel
theorem d_NJ_port_35 : decode c_NJ_port 35 = .ok (.iload_n 3, 1) := by decide +kernel
theorem d_NJ_port_36 : decode c_NJ_port 36 = .ok (.invokevirtual 168, 3) := by decide +kernel
theorem d_NJ_port_39 : decode c_NJ_port 39 = .ok (.ifCond .eq 5, 3) := by decide +kernel
theorem d_NJ_port_42 : decode c_NJ_port 42 = .ok (.iconst 0, 1) := by decide +kernel
theorem d_NJ_port_43 : decode c_NJ_port 43 = .ok (.ireturn, 1) := by decide +kernel
theorem d_NJ_port_44 : decode c_NJ_port 44 = .ok (.iload_n 1, 1) := by decide +kernel
theorem d_NJ_port_45 : decode c_NJ_port 45 = .ok (.aload_n 0, 1) := by decide +kernel
theorem d_NJ_port_46 : decode c_NJ_port 46 = .ok (.getfield 22, 3) := by decide +kernel
theorem d_NJ_port_49 : decode c_NJ_port 49 = .ok (.iload_n 2, 1) := by decide +kernel
theorem d_NJ_port_50 : decode c_NJ_port 50 = .ok (.invokevirtual 172, 3) := by decide +kernel
theorem d_NJ_port_53 : decode c_NJ_port 53 = .ok (.checkcast 140, 3) := by decide +kernel
theorem d_NJ_port_56 : decode c_NJ_port 56 = .ok (.getfield 176, 3) := by decide +kernel
theorem d_NJ_port_59 : decode c_NJ_port 59 = .ok (.invokestatic 180, 3) := by decide +kernel
theorem d_NJ_port_62 : decode c_NJ_port 62 = .ok (.istore 4, 2) := by decide +kernel
theorem d_NJ_port_64 : decode c_NJ_port 64 = .ok (.aload_n 0, 1) := by decide +kernel
theorem d_NJ_port_65 : decode c_NJ_port 65 = .ok (.getfield 12, 3) := by decide +kernel
theorem d_NJ_port_68 : decode c_NJ_port 68 = .ok (.iload_n 1, 1) := by decide +kernel
theorem d_NJ_port_69 : decode c_NJ_port 69 = .ok (.invokevirtual 172, 3) := by decide +kernel
theorem d_NJ_port_72 : decode c_NJ_port 72 = .ok (.checkcast 80, 3) := by decide +kernel
theorem d_NJ_port_75 : decode c_NJ_port 75 = .ok (.getfield 184, 3) := by decide +kernel
theorem d_NJ_port_78 : decode c_NJ_port 78 = .ok (.iload_n 3, 1) := by decide +kernel
theorem d_NJ_port_79 : decode c_NJ_port 79 = .ok (.invokestatic 180, 3) := by decide +kernel
theorem d_NJ_port_82 : decode c_NJ_port 82 = .ok (.istore 5, 2) := by decide +kernel
theorem d_NJ_port_84 : decode c_NJ_port 84 = .ok (.aload_n 0, 1) := by decide +kernel
theorem d_NJ_port_85 : decode c_NJ_port 85 = .ok (.getfield 31, 3) := by decide +kernel
theorem d_NJ_port_88 : decode c_NJ_port 88 = .ok (.new 187, 3) := by decide +kernel
theorem d_NJ_port_91 : decode c_NJ_port 91 = .ok (.dup, 1) := by decide +kernel
theorem d_NJ_port_92 : decode c_NJ_port 92 = .ok (.iload_n 1, 1) := by decide +kernel
theorem d_NJ_port_93 : decode c_NJ_port 93 = .ok (.iload_n 2, 1) := by decide +kernel
theorem d_NJ_port_94 : decode c_NJ_port 94 = .ok (.iload_n 3, 1) := by decide +kernel
theorem d_NJ_port_95 : decode c_NJ_port 95 = .ok (.iload 4, 2) := by decide +kernel
theorem d_NJ_port_97 : decode c_NJ_port 97 = .ok (.iload 5, 2) := by decide +kernel
theorem d_NJ_port_99 : decode c_NJ_port 99 = .ok (.invokespecial 189, 3) := by decide +kernel
theorem d_NJ_port_102 : decode c_NJ_port 102 = .ok (.invokevirtual 89, 3) := by decide +kernel
theorem d_NJ_port_105 : decode c_NJ_port 105 = .ok (.pop, 1) := by decide +kernel
theorem d_NJ_port_106 : decode c_NJ_port 106 = .ok (.aload_n 0, 1) := by decide +kernel
theorem d_NJ_port_107 : decode c_NJ_port 107 = .ok (.getfield 50, 3) := by decide +kernel
theorem d_NJ_port_110 : decode c_NJ_port 110 = .ok (.iload 4, 2) := by decide +kernel
theorem d_NJ_port_112 : decode c_NJ_port 112 = .ok (.iload 5, 2) := by decide +kernel
theorem d_NJ_port_114 : decode c_NJ_port 114 = .ok (.invokevirtual 192, 3) := by decide +kernel
theorem d_NJ_port_117 : decode c_NJ_port 117 = .ok (.aload_n 0, 1) := by decide +kernel
theorem d_NJ_port_118 : decode c_NJ_port 118 = .ok (.invokevirtual 103, 3) := by decide +kernel
theorem d_NJ_port_121 : decode c_NJ_port 121 = .ok (.iconst 1, 1) := by decide +kernel
theorem d_NJ_port_122 : decode c_NJ_port 122 = .ok (.ireturn, 1) := by decide +kernel
abbrev c_NJ_bus : ByteArray := prog_1_method_8_code
def y_NJ_bus : MethodName := ⟨"NetJoins", "bus", "(IIII)Z"⟩
theorem ok_NJ_bus : vOK y_NJ_bus c_NJ_bus 7 (some .boolean) 4 := ⟨kw_1050, kw_1048, kw_1049, kw_1, by decide +kernel⟩
theorem d_NJ_bus_0 : decode c_NJ_bus 0 = .ok (.aload_n 0, 1) := by decide +kernel
theorem d_NJ_bus_1 : decode c_NJ_bus 1 = .ok (.iload_n 1, 1) := by decide +kernel
theorem d_NJ_bus_2 : decode c_NJ_bus 2 = .ok (.invokevirtual 73, 3) := by decide +kernel
theorem d_NJ_bus_5 : decode c_NJ_bus 5 = .ok (.iload_n 2, 1) := by decide +kernel
theorem d_NJ_bus_6 : decode c_NJ_bus 6 = .ok (.invokestatic 149, 3) := by decide +kernel
theorem d_NJ_bus_9 : decode c_NJ_bus 9 = .ok (.iload_n 3, 1) := by decide +kernel
theorem d_NJ_bus_10 : decode c_NJ_bus 10 = .ok (.invokestatic 149, 3) := by decide +kernel
theorem d_NJ_bus_13 : decode c_NJ_bus 13 = .ok (.iload 4, 2) := by decide +kernel
theorem d_NJ_bus_15 : decode c_NJ_bus 15 = .ok (.invokestatic 149, 3) := by decide +kernel
theorem d_NJ_bus_18 : decode c_NJ_bus 18 = .ok (.aload_n 0, 1) := by decide +kernel
theorem d_NJ_bus_19 : decode c_NJ_bus 19 = .ok (.getfield 34, 3) := by decide +kernel
theorem d_NJ_bus_22 : decode c_NJ_bus 22 = .ok (.invokevirtual 76, 3) := by decide +kernel
theorem d_NJ_bus_25 : decode c_NJ_bus 25 = .ok (.istore 5, 2) := by decide +kernel
theorem d_NJ_bus_27 : decode c_NJ_bus 27 = .ok (.iload 5, 2) := by decide +kernel
theorem d_NJ_bus_29 : decode c_NJ_bus 29 = .ok (.bipush 16, 2) := by decide +kernel
theorem d_NJ_bus_31 : decode c_NJ_bus 31 = .ok (.if_icmp .ge 15, 3) := by decide +kernel
theorem d_NJ_bus_34 : decode c_NJ_bus 34 = .ok (.aload_n 0, 1) := by decide +kernel
theorem d_NJ_bus_35 : decode c_NJ_bus 35 = .ok (.iload_n 1, 1) := by decide +kernel
theorem d_NJ_bus_36 : decode c_NJ_bus 36 = .ok (.iload_n 2, 1) := by decide +kernel
theorem d_NJ_bus_37 : decode c_NJ_bus 37 = .ok (.iload_n 3, 1) := by decide +kernel
theorem d_NJ_bus_38 : decode c_NJ_bus 38 = .ok (.iload 4, 2) := by decide +kernel
theorem d_NJ_bus_40 : decode c_NJ_bus 40 = .ok (.invokevirtual 195, 3) := by decide +kernel
theorem d_NJ_bus_43 : decode c_NJ_bus 43 = .ok (.ifCond .eq 5, 3) := by decide +kernel
theorem d_NJ_bus_46 : decode c_NJ_bus 46 = .ok (.iconst 0, 1) := by decide +kernel
theorem d_NJ_bus_47 : decode c_NJ_bus 47 = .ok (.ireturn, 1) := by decide +kernel
theorem d_NJ_bus_48 : decode c_NJ_bus 48 = .ok (.aload_n 0, 1) := by decide +kernel
theorem d_NJ_bus_49 : decode c_NJ_bus 49 = .ok (.getfield 34, 3) := by decide +kernel
theorem d_NJ_bus_52 : decode c_NJ_bus 52 = .ok (.new 199, 3) := by decide +kernel
theorem d_NJ_bus_55 : decode c_NJ_bus 55 = .ok (.dup, 1) := by decide +kernel
theorem d_NJ_bus_56 : decode c_NJ_bus 56 = .ok (.iload_n 1, 1) := by decide +kernel
theorem d_NJ_bus_57 : decode c_NJ_bus 57 = .ok (.iload_n 2, 1) := by decide +kernel
theorem d_NJ_bus_58 : decode c_NJ_bus 58 = .ok (.iload_n 3, 1) := by decide +kernel
theorem d_NJ_bus_59 : decode c_NJ_bus 59 = .ok (.iload 4, 2) := by decide +kernel
theorem d_NJ_bus_61 : decode c_NJ_bus 61 = .ok (.invokespecial 201, 3) := by decide +kernel
theorem d_NJ_bus_64 : decode c_NJ_bus 64 = .ok (.invokevirtual 89, 3) := by decide +kernel
theorem d_NJ_bus_67 : decode c_NJ_bus 67 = .ok (.pop, 1) := by decide +kernel
theorem d_NJ_bus_68 : decode c_NJ_bus 68 = .ok (.iconst 0, 1) := by decide +kernel
theorem d_NJ_bus_69 : decode c_NJ_bus 69 = .ok (.istore 6, 2) := by decide +kernel
theorem d_NJ_bus_71 : decode c_NJ_bus 71 = .ok (.iload 6, 2) := by decide +kernel
theorem d_NJ_bus_73 : decode c_NJ_bus 73 = .ok (.aload_n 0, 1) := by decide +kernel
theorem d_NJ_bus_74 : decode c_NJ_bus 74 = .ok (.getfield 12, 3) := by decide +kernel
theorem d_NJ_bus_77 : decode c_NJ_bus 77 = .ok (.invokevirtual 76, 3) := by decide +kernel
theorem d_NJ_bus_80 : decode c_NJ_bus 80 = .ok (.if_icmp .ge 36, 3) := by decide +kernel
theorem d_NJ_bus_83 : decode c_NJ_bus 83 = .ok (.aload_n 0, 1) := by decide +kernel
theorem d_NJ_bus_84 : decode c_NJ_bus 84 = .ok (.getfield 12, 3) := by decide +kernel
theorem d_NJ_bus_87 : decode c_NJ_bus 87 = .ok (.iload 6, 2) := by decide +kernel
theorem d_NJ_bus_89 : decode c_NJ_bus 89 = .ok (.invokevirtual 172, 3) := by decide +kernel
theorem d_NJ_bus_92 : decode c_NJ_bus 92 = .ok (.checkcast 80, 3) := by decide +kernel
theorem d_NJ_bus_95 : decode c_NJ_bus 95 = .ok (.getfield 202, 3) := by decide +kernel
theorem d_NJ_bus_98 : decode c_NJ_bus 98 = .ok (.iload_n 1, 1) := by decide +kernel
theorem d_NJ_bus_99 : decode c_NJ_bus 99 = .ok (.if_icmp .ne 11, 3) := by decide +kernel
theorem d_NJ_bus_102 : decode c_NJ_bus 102 = .ok (.aload_n 0, 1) := by decide +kernel
theorem d_NJ_bus_103 : decode c_NJ_bus 103 = .ok (.iload 5, 2) := by decide +kernel
theorem d_NJ_bus_105 : decode c_NJ_bus 105 = .ok (.iload 6, 2) := by decide +kernel
theorem d_NJ_bus_107 : decode c_NJ_bus 107 = .ok (.invokevirtual 205, 3) := by decide +kernel
theorem d_NJ_bus_110 : decode c_NJ_bus 110 = .ok (.iinc 6 1, 3) := by decide +kernel
theorem d_NJ_bus_113 : decode c_NJ_bus 113 = .ok (.goto (-42), 3) := by decide +kernel
theorem d_NJ_bus_116 : decode c_NJ_bus 116 = .ok (.aload_n 0, 1) := by decide +kernel
theorem d_NJ_bus_117 : decode c_NJ_bus 117 = .ok (.invokevirtual 103, 3) := by decide +kernel
theorem d_NJ_bus_120 : decode c_NJ_bus 120 = .ok (.iconst 1, 1) := by decide +kernel
theorem d_NJ_bus_121 : decode c_NJ_bus 121 = .ok (.ireturn, 1) := by decide +kernel
abbrev c_NJ_needPin : ByteArray := prog_1_method_22_code
def y_NJ_needPin : MethodName := ⟨"NetJoins", "needPin", "(I)V"⟩
theorem ok_NJ_needPin : vOK y_NJ_needPin c_NJ_needPin 2 none 1 := ⟨kw_1087, kw_1086, ks_45, kw_1, by decide +kernel⟩
theorem d_NJ_needPin_0 : decode c_NJ_needPin 0 = .ok (.iload_n 1, 1) := by decide +kernel
theorem d_NJ_needPin_1 : decode c_NJ_needPin 1 = .ok (.ifCond .lt 14, 3) := by decide +kernel
theorem d_NJ_needPin_4 : decode c_NJ_needPin 4 = .ok (.iload_n 1, 1) := by decide +kernel
theorem d_NJ_needPin_5 : decode c_NJ_needPin 5 = .ok (.aload_n 0, 1) := by decide +kernel
theorem d_NJ_needPin_6 : decode c_NJ_needPin 6 = .ok (.getfield 28, 3) := by decide +kernel
theorem d_NJ_needPin_9 : decode c_NJ_needPin 9 = .ok (.invokevirtual 76, 3) := by decide +kernel
theorem d_NJ_needPin_12 : decode c_NJ_needPin 12 = .ok (.if_icmp .lt 14, 3) := by decide +kernel
theorem d_NJ_needPin_15 : decode c_NJ_needPin 15 = .ok (.new 217, 3) := by decide +kernel
theorem d_NJ_needPin_18 : decode c_NJ_needPin 18 = .ok (.dup, 1) := by decide +kernel
theorem d_NJ_needPin_19 : decode c_NJ_needPin 19 = .ok (.ldc_w 293, 3) := by decide +kernel
theorem d_NJ_needPin_22 : decode c_NJ_needPin 22 = .ok (.invokespecial 221, 3) := by decide +kernel
theorem d_NJ_needPin_25 : decode c_NJ_needPin 25 = .ok (.athrow, 1) := by decide +kernel
theorem d_NJ_needPin_26 : decode c_NJ_needPin 26 = .ok (.return_, 1) := by decide +kernel
abbrev c_NJ_netOf : ByteArray := prog_1_method_13_code
def y_NJ_netOf : MethodName := ⟨"NetJoins", "netOf", "(II)I"⟩
theorem ok_NJ_netOf : vOK y_NJ_netOf c_NJ_netOf 3 (some .int) 2 := ⟨kw_1083, kw_1081, kw_1082, kw_1, by decide +kernel⟩
theorem d_NJ_netOf_0 : decode c_NJ_netOf 0 = .ok (.aload_n 0, 1) := by decide +kernel
theorem d_NJ_netOf_1 : decode c_NJ_netOf 1 = .ok (.iload_n 1, 1) := by decide +kernel
theorem d_NJ_netOf_2 : decode c_NJ_netOf 2 = .ok (.invokevirtual 228, 3) := by decide +kernel
theorem d_NJ_netOf_5 : decode c_NJ_netOf 5 = .ok (.iload_n 2, 1) := by decide +kernel
theorem d_NJ_netOf_6 : decode c_NJ_netOf 6 = .ok (.ifCond .lt 25, 3) := by decide +kernel
theorem d_NJ_netOf_9 : decode c_NJ_netOf 9 = .ok (.iload_n 2, 1) := by decide +kernel
theorem d_NJ_netOf_10 : decode c_NJ_netOf 10 = .ok (.aload_n 0, 1) := by decide +kernel
theorem d_NJ_netOf_11 : decode c_NJ_netOf 11 = .ok (.aload_n 0, 1) := by decide +kernel
theorem d_NJ_netOf_12 : decode c_NJ_netOf 12 = .ok (.getfield 28, 3) := by decide +kernel
theorem d_NJ_netOf_15 : decode c_NJ_netOf 15 = .ok (.iload_n 1, 1) := by decide +kernel
theorem d_NJ_netOf_16 : decode c_NJ_netOf 16 = .ok (.invokevirtual 172, 3) := by decide +kernel
theorem d_NJ_netOf_19 : decode c_NJ_netOf 19 = .ok (.checkcast 140, 3) := by decide +kernel
theorem d_NJ_netOf_22 : decode c_NJ_netOf 22 = .ok (.getfield 237, 3) := by decide +kernel
theorem d_NJ_netOf_25 : decode c_NJ_netOf 25 = .ok (.invokevirtual 240, 3) := by decide +kernel
theorem d_NJ_netOf_28 : decode c_NJ_netOf 28 = .ok (.if_icmp .lt 13, 3) := by decide +kernel
theorem d_NJ_netOf_31 : decode c_NJ_netOf 31 = .ok (.new 217, 3) := by decide +kernel
theorem d_NJ_netOf_34 : decode c_NJ_netOf 34 = .ok (.dup, 1) := by decide +kernel
theorem d_NJ_netOf_35 : decode c_NJ_netOf 35 = .ok (.ldc 244, 2) := by decide +kernel
theorem d_NJ_netOf_37 : decode c_NJ_netOf 37 = .ok (.invokespecial 221, 3) := by decide +kernel
theorem d_NJ_netOf_40 : decode c_NJ_netOf 40 = .ok (.athrow, 1) := by decide +kernel
theorem d_NJ_netOf_41 : decode c_NJ_netOf 41 = .ok (.aload_n 0, 1) := by decide +kernel
theorem d_NJ_netOf_42 : decode c_NJ_netOf 42 = .ok (.getfield 56, 3) := by decide +kernel
theorem d_NJ_netOf_45 : decode c_NJ_netOf 45 = .ok (.getfield 246, 3) := by decide +kernel
theorem d_NJ_netOf_48 : decode c_NJ_netOf 48 = .ok (.iload_n 1, 1) := by decide +kernel
theorem d_NJ_netOf_49 : decode c_NJ_netOf 49 = .ok (.iload_n 2, 1) := by decide +kernel
theorem d_NJ_netOf_50 : decode c_NJ_netOf 50 = .ok (.invokestatic 249, 3) := by decide +kernel
theorem d_NJ_netOf_53 : decode c_NJ_netOf 53 = .ok (.iaload, 1) := by decide +kernel
theorem d_NJ_netOf_54 : decode c_NJ_netOf 54 = .ok (.ireturn, 1) := by decide +kernel
abbrev c_NJ_rank : ByteArray := prog_1_method_9_code
def y_NJ_rank : MethodName := ⟨"NetJoins", "rank", "(II)Z"⟩
theorem ok_NJ_rank : vOK y_NJ_rank c_NJ_rank 3 (some .boolean) 2 := ⟨kw_1096, kw_1094, kw_1095, kw_1, by decide +kernel⟩
theorem d_NJ_rank_0 : decode c_NJ_rank 0 = .ok (.iload_n 1, 1) := by decide +kernel
theorem d_NJ_rank_1 : decode c_NJ_rank 1 = .ok (.invokestatic 149, 3) := by decide +kernel
theorem d_NJ_rank_4 : decode c_NJ_rank 4 = .ok (.iload_n 2, 1) := by decide +kernel
theorem d_NJ_rank_5 : decode c_NJ_rank 5 = .ok (.bipush (-9), 2) := by decide +kernel
theorem d_NJ_rank_7 : decode c_NJ_rank 7 = .ok (.if_icmp .lt 9, 3) := by decide +kernel
theorem d_NJ_rank_10 : decode c_NJ_rank 10 = .ok (.iload_n 2, 1) := by decide +kernel
theorem d_NJ_rank_11 : decode c_NJ_rank 11 = .ok (.bipush 9, 2) := by decide +kernel
theorem d_NJ_rank_13 : decode c_NJ_rank 13 = .ok (.if_icmp .le 13, 3) := by decide +kernel
theorem d_NJ_rank_16 : decode c_NJ_rank 16 = .ok (.new 110, 3) := by decide +kernel
theorem d_NJ_rank_19 : decode c_NJ_rank 19 = .ok (.dup, 1) := by decide +kernel
theorem d_NJ_rank_20 : decode c_NJ_rank 20 = .ok (.ldc 208, 2) := by decide +kernel
theorem d_NJ_rank_22 : decode c_NJ_rank 22 = .ok (.invokespecial 114, 3) := by decide +kernel
theorem d_NJ_rank_25 : decode c_NJ_rank 25 = .ok (.athrow, 1) := by decide +kernel
theorem d_NJ_rank_26 : decode c_NJ_rank 26 = .ok (.aload_n 0, 1) := by decide +kernel
theorem d_NJ_rank_27 : decode c_NJ_rank 27 = .ok (.getfield 37, 3) := by decide +kernel
theorem d_NJ_rank_30 : decode c_NJ_rank 30 = .ok (.iload_n 1, 1) := by decide +kernel
theorem d_NJ_rank_31 : decode c_NJ_rank 31 = .ok (.iaload, 1) := by decide +kernel
theorem d_NJ_rank_32 : decode c_NJ_rank 32 = .ok (.iload_n 2, 1) := by decide +kernel
theorem d_NJ_rank_33 : decode c_NJ_rank 33 = .ok (.if_icmp .ne 5, 3) := by decide +kernel
theorem d_NJ_rank_36 : decode c_NJ_rank 36 = .ok (.iconst 0, 1) := by decide +kernel
theorem d_NJ_rank_37 : decode c_NJ_rank 37 = .ok (.ireturn, 1) := by decide +kernel
theorem d_NJ_rank_38 : decode c_NJ_rank 38 = .ok (.aload_n 0, 1) := by decide +kernel
theorem d_NJ_rank_39 : decode c_NJ_rank 39 = .ok (.getfield 37, 3) := by decide +kernel
theorem d_NJ_rank_42 : decode c_NJ_rank 42 = .ok (.iload_n 1, 1) := by decide +kernel
theorem d_NJ_rank_43 : decode c_NJ_rank 43 = .ok (.iload_n 2, 1) := by decide +kernel
theorem d_NJ_rank_44 : decode c_NJ_rank 44 = .ok (.iastore, 1) := by decide +kernel
theorem d_NJ_rank_45 : decode c_NJ_rank 45 = .ok (.aload_n 0, 1) := by decide +kernel
theorem d_NJ_rank_46 : decode c_NJ_rank 46 = .ok (.iconst 0, 1) := by decide +kernel
theorem d_NJ_rank_47 : decode c_NJ_rank 47 = .ok (.putfield 210, 3) := by decide +kernel
theorem d_NJ_rank_50 : decode c_NJ_rank 50 = .ok (.iconst 1, 1) := by decide +kernel
theorem d_NJ_rank_51 : decode c_NJ_rank 51 = .ok (.ireturn, 1) := by decide +kernel
abbrev c_NJ_name : ByteArray := prog_1_method_14_code
def y_NJ_name : MethodName := ⟨"NetJoins", "name", "(I)I"⟩
theorem ok_NJ_name : vOK y_NJ_name c_NJ_name 3 (some .int) 1 := ⟨kw_1104, kw_1102, kw_1103, kw_1, by decide +kernel⟩
theorem d_NJ_name_0 : decode c_NJ_name 0 = .ok (.iload_n 1, 1) := by decide +kernel
theorem d_NJ_name_1 : decode c_NJ_name 1 = .ok (.ifCond .lt 14, 3) := by decide +kernel
theorem d_NJ_name_4 : decode c_NJ_name 4 = .ok (.iload_n 1, 1) := by decide +kernel
theorem d_NJ_name_5 : decode c_NJ_name 5 = .ok (.aload_n 0, 1) := by decide +kernel
theorem d_NJ_name_6 : decode c_NJ_name 6 = .ok (.getfield 56, 3) := by decide +kernel
theorem d_NJ_name_9 : decode c_NJ_name 9 = .ok (.getfield 234, 3) := by decide +kernel
theorem d_NJ_name_12 : decode c_NJ_name 12 = .ok (.if_icmp .lt 13, 3) := by decide +kernel
theorem d_NJ_name_15 : decode c_NJ_name 15 = .ok (.new 217, 3) := by decide +kernel
theorem d_NJ_name_18 : decode c_NJ_name 18 = .ok (.dup, 1) := by decide +kernel
theorem d_NJ_name_19 : decode c_NJ_name 19 = .ok (.ldc 252, 2) := by decide +kernel
theorem d_NJ_name_21 : decode c_NJ_name 21 = .ok (.invokespecial 221, 3) := by decide +kernel
theorem d_NJ_name_24 : decode c_NJ_name 24 = .ok (.athrow, 1) := by decide +kernel
theorem d_NJ_name_25 : decode c_NJ_name 25 = .ok (.aload_n 0, 1) := by decide +kernel
theorem d_NJ_name_26 : decode c_NJ_name 26 = .ok (.invokevirtual 254, 3) := by decide +kernel
theorem d_NJ_name_29 : decode c_NJ_name 29 = .ok (.aload_n 0, 1) := by decide +kernel
theorem d_NJ_name_30 : decode c_NJ_name 30 = .ok (.iload_n 1, 1) := by decide +kernel
theorem d_NJ_name_31 : decode c_NJ_name 31 = .ok (.invokevirtual 257, 3) := by decide +kernel
theorem d_NJ_name_34 : decode c_NJ_name 34 = .ok (.istore_n 2, 1) := by decide +kernel
theorem d_NJ_name_35 : decode c_NJ_name 35 = .ok (.iload_n 2, 1) := by decide +kernel
theorem d_NJ_name_36 : decode c_NJ_name 36 = .ok (.iconst (-1), 1) := by decide +kernel
theorem d_NJ_name_37 : decode c_NJ_name 37 = .ok (.if_icmp .eq 7, 3) := by decide +kernel
theorem d_NJ_name_40 : decode c_NJ_name 40 = .ok (.iload_n 2, 1) := by decide +kernel
theorem d_NJ_name_41 : decode c_NJ_name 41 = .ok (.goto 13, 3) := by decide +kernel
theorem d_NJ_name_44 : decode c_NJ_name 44 = .ok (.iconst (-1), 1) := by decide +kernel
theorem d_NJ_name_45 : decode c_NJ_name 45 = .ok (.aload_n 0, 1) := by decide +kernel
theorem d_NJ_name_46 : decode c_NJ_name 46 = .ok (.getfield 56, 3) := by decide +kernel
theorem d_NJ_name_49 : decode c_NJ_name 49 = .ok (.iload_n 1, 1) := by decide +kernel
theorem d_NJ_name_50 : decode c_NJ_name 50 = .ok (.invokevirtual 260, 3) := by decide +kernel
theorem d_NJ_name_53 : decode c_NJ_name 53 = .ok (.isub, 1) := by decide +kernel
theorem d_NJ_name_54 : decode c_NJ_name 54 = .ok (.ireturn, 1) := by decide +kernel
abbrev c_NJ_drop : ByteArray := prog_1_method_10_code
def y_NJ_drop : MethodName := ⟨"NetJoins", "drop", "(I)I"⟩
theorem ok_NJ_drop : vOK y_NJ_drop c_NJ_drop 2 (some .int) 1 := ⟨kw_1116, kw_1114, kw_1115, kw_1, by decide +kernel⟩
theorem d_NJ_drop_0 : decode c_NJ_drop 0 = .ok (.iload_n 1, 1) := by decide +kernel
theorem d_NJ_drop_1 : decode c_NJ_drop 1 = .ok (.ifCond .lt 31, 3) := by decide +kernel
theorem d_NJ_drop_4 : decode c_NJ_drop 4 = .ok (.iload_n 1, 1) := by decide +kernel
theorem d_NJ_drop_5 : decode c_NJ_drop 5 = .ok (.aload_n 0, 1) := by decide +kernel
theorem d_NJ_drop_6 : decode c_NJ_drop 6 = .ok (.getfield 16, 3) := by decide +kernel
theorem d_NJ_drop_9 : decode c_NJ_drop 9 = .ok (.invokevirtual 76, 3) := by decide +kernel
theorem d_NJ_drop_12 : decode c_NJ_drop 12 = .ok (.if_icmp .ge 20, 3) := by decide +kernel
theorem d_NJ_drop_15 : decode c_NJ_drop 15 = .ok (.aload_n 0, 1) := by decide +kernel
theorem d_NJ_drop_16 : decode c_NJ_drop 16 = .ok (.getfield 16, 3) := by decide +kernel
theorem d_NJ_drop_19 : decode c_NJ_drop 19 = .ok (.iload_n 1, 1) := by decide +kernel
theorem d_NJ_drop_20 : decode c_NJ_drop 20 = .ok (.invokevirtual 172, 3) := by decide +kernel
theorem d_NJ_drop_23 : decode c_NJ_drop 23 = .ok (.checkcast 117, 3) := by decide +kernel
theorem d_NJ_drop_26 : decode c_NJ_drop 26 = .ok (.getfield 214, 3) := by decide +kernel
theorem d_NJ_drop_29 : decode c_NJ_drop 29 = .ok (.ifCond .eq 13, 3) := by decide +kernel
theorem d_NJ_drop_32 : decode c_NJ_drop 32 = .ok (.new 217, 3) := by decide +kernel
theorem d_NJ_drop_35 : decode c_NJ_drop 35 = .ok (.dup, 1) := by decide +kernel
theorem d_NJ_drop_36 : decode c_NJ_drop 36 = .ok (.ldc 219, 2) := by decide +kernel
theorem d_NJ_drop_38 : decode c_NJ_drop 38 = .ok (.invokespecial 221, 3) := by decide +kernel
theorem d_NJ_drop_41 : decode c_NJ_drop 41 = .ok (.athrow, 1) := by decide +kernel
theorem d_NJ_drop_42 : decode c_NJ_drop 42 = .ok (.aload_n 0, 1) := by decide +kernel
theorem d_NJ_drop_43 : decode c_NJ_drop 43 = .ok (.getfield 16, 3) := by decide +kernel
theorem d_NJ_drop_46 : decode c_NJ_drop 46 = .ok (.iload_n 1, 1) := by decide +kernel
theorem d_NJ_drop_47 : decode c_NJ_drop 47 = .ok (.invokevirtual 172, 3) := by decide +kernel
theorem d_NJ_drop_50 : decode c_NJ_drop 50 = .ok (.checkcast 117, 3) := by decide +kernel
theorem d_NJ_drop_53 : decode c_NJ_drop 53 = .ok (.iconst 1, 1) := by decide +kernel
theorem d_NJ_drop_54 : decode c_NJ_drop 54 = .ok (.putfield 214, 3) := by decide +kernel
theorem d_NJ_drop_57 : decode c_NJ_drop 57 = .ok (.aload_n 0, 1) := by decide +kernel
theorem d_NJ_drop_58 : decode c_NJ_drop 58 = .ok (.invokevirtual 222, 3) := by decide +kernel
theorem d_NJ_drop_61 : decode c_NJ_drop 61 = .ok (.aload_n 0, 1) := by decide +kernel
theorem d_NJ_drop_62 : decode c_NJ_drop 62 = .ok (.invokevirtual 103, 3) := by decide +kernel
theorem d_NJ_drop_65 : decode c_NJ_drop 65 = .ok (.aload_n 0, 1) := by decide +kernel
theorem d_NJ_drop_66 : decode c_NJ_drop 66 = .ok (.getfield 56, 3) := by decide +kernel
theorem d_NJ_drop_69 : decode c_NJ_drop 69 = .ok (.invokevirtual 225, 3) := by decide +kernel
theorem d_NJ_drop_72 : decode c_NJ_drop 72 = .ok (.ireturn, 1) := by decide +kernel
abbrev c_NJ_open : ByteArray := prog_1_method_11_code
def y_NJ_open : MethodName := ⟨"NetJoins", "open", "(I)Z"⟩
theorem ok_NJ_open : vOK y_NJ_open c_NJ_open 3 (some .boolean) 1 := ⟨kw_1128, kw_1126, kw_1127, kw_1, by decide +kernel⟩
theorem d_NJ_open_0 : decode c_NJ_open 0 = .ok (.aload_n 0, 1) := by decide +kernel
theorem d_NJ_open_1 : decode c_NJ_open 1 = .ok (.iload_n 1, 1) := by decide +kernel
theorem d_NJ_open_2 : decode c_NJ_open 2 = .ok (.invokevirtual 228, 3) := by decide +kernel
theorem d_NJ_open_5 : decode c_NJ_open 5 = .ok (.aload_n 0, 1) := by decide +kernel
theorem d_NJ_open_6 : decode c_NJ_open 6 = .ok (.getfield 28, 3) := by decide +kernel
theorem d_NJ_open_9 : decode c_NJ_open 9 = .ok (.iload_n 1, 1) := by decide +kernel
theorem d_NJ_open_10 : decode c_NJ_open 10 = .ok (.invokevirtual 172, 3) := by decide +kernel
theorem d_NJ_open_13 : decode c_NJ_open 13 = .ok (.checkcast 140, 3) := by decide +kernel
theorem d_NJ_open_16 : decode c_NJ_open 16 = .ok (.astore_n 2, 1) := by decide +kernel
theorem d_NJ_open_17 : decode c_NJ_open 17 = .ok (.aload_n 2, 1) := by decide +kernel
theorem d_NJ_open_18 : decode c_NJ_open 18 = .ok (.aload_n 2, 1) := by decide +kernel
theorem d_NJ_open_19 : decode c_NJ_open 19 = .ok (.getfield 231, 3) := by decide +kernel
theorem d_NJ_open_22 : decode c_NJ_open 22 = .ok (.ifCond .ne 7, 3) := by decide +kernel
theorem d_NJ_open_25 : decode c_NJ_open 25 = .ok (.iconst 1, 1) := by decide +kernel
theorem d_NJ_open_26 : decode c_NJ_open 26 = .ok (.goto 4, 3) := by decide +kernel
theorem d_NJ_open_29 : decode c_NJ_open 29 = .ok (.iconst 0, 1) := by decide +kernel
theorem d_NJ_open_30 : decode c_NJ_open 30 = .ok (.putfield 231, 3) := by decide +kernel
theorem d_NJ_open_33 : decode c_NJ_open 33 = .ok (.aload_n 0, 1) := by decide +kernel
theorem d_NJ_open_34 : decode c_NJ_open 34 = .ok (.iconst 0, 1) := by decide +kernel
theorem d_NJ_open_35 : decode c_NJ_open 35 = .ok (.putfield 210, 3) := by decide +kernel
theorem d_NJ_open_38 : decode c_NJ_open 38 = .ok (.aload_n 2, 1) := by decide +kernel
theorem d_NJ_open_39 : decode c_NJ_open 39 = .ok (.getfield 231, 3) := by decide +kernel
theorem d_NJ_open_42 : decode c_NJ_open 42 = .ok (.ireturn, 1) := by decide +kernel
