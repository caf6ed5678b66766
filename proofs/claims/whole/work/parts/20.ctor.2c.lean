abbrev c_Joins_init : ByteArray := prog_3_method_1_code
def y_Joins_init : MethodName := ⟨"NetJoins$Joins", "<init>", "(II)V"⟩
theorem ok_Joins_init : iOK y_Joins_init c_Joins_init 3 2 := ⟨kw_69, kw_68, kw_5, rfl, by decide +kernel⟩
theorem d_Joins_init_0 : decode c_Joins_init 0 = .ok (.aload_n 0, 1) := by decide +kernel
theorem d_Joins_init_1 : decode c_Joins_init 1 = .ok (.invokespecial 3, 3) := by decide +kernel
theorem d_Joins_init_4 : decode c_Joins_init 4 = .ok (.aload_n 0, 1) := by decide +kernel
theorem d_Joins_init_5 : decode c_Joins_init 5 = .ok (.iload_n 1, 1) := by decide +kernel
theorem d_Joins_init_6 : decode c_Joins_init 6 = .ok (.iconst 0, 1) := by decide +kernel
theorem d_Joins_init_7 : decode c_Joins_init 7 = .ok (.multianewarray 9 2, 4) := by decide +kernel
theorem d_Joins_init_11 : decode c_Joins_init 11 = .ok (.putfield 11, 3) := by decide +kernel
theorem d_Joins_init_14 : decode c_Joins_init 14 = .ok (.aload_n 0, 1) := by decide +kernel
theorem d_Joins_init_15 : decode c_Joins_init 15 = .ok (.getfield 11, 3) := by decide +kernel
theorem d_Joins_init_18 : decode c_Joins_init 18 = .ok (.iconst 0, 1) := by decide +kernel
theorem d_Joins_init_19 : decode c_Joins_init 19 = .ok (.iload_n 2, 1) := by decide +kernel
theorem d_Joins_init_20 : decode c_Joins_init 20 = .ok (.newarray .int, 2) := by decide +kernel
theorem d_Joins_init_22 : decode c_Joins_init 22 = .ok (.aastore, 1) := by decide +kernel
theorem d_Joins_init_23 : decode c_Joins_init 23 = .ok (.aload_n 0, 1) := by decide +kernel
theorem d_Joins_init_24 : decode c_Joins_init 24 = .ok (.iconst 0, 1) := by decide +kernel
theorem d_Joins_init_25 : decode c_Joins_init 25 = .ok (.invokevirtual 14, 3) := by decide +kernel
theorem d_Joins_init_28 : decode c_Joins_init 28 = .ok (.return_, 1) := by decide +kernel
abbrev c_NJ_init : ByteArray := prog_1_method_1_code
def y_NJ_init : MethodName := ⟨"NetJoins", "<init>", "()V"⟩
theorem ok_NJ_init : iOK y_NJ_init c_NJ_init 1 0 := ⟨kw_35, kw_34, kw_1, rfl, by decide +kernel⟩
theorem d_NJ_init_0 : decode c_NJ_init 0 = .ok (.aload_n 0, 1) := by decide +kernel
theorem d_NJ_init_1 : decode c_NJ_init 1 = .ok (.invokespecial 3, 3) := by decide +kernel
theorem d_NJ_init_4 : decode c_NJ_init 4 = .ok (.aload_n 0, 1) := by decide +kernel
theorem d_NJ_init_5 : decode c_NJ_init 5 = .ok (.new 9, 3) := by decide +kernel
theorem d_NJ_init_8 : decode c_NJ_init 8 = .ok (.dup, 1) := by decide +kernel
theorem d_NJ_init_9 : decode c_NJ_init 9 = .ok (.invokespecial 11, 3) := by decide +kernel
theorem d_NJ_init_12 : decode c_NJ_init 12 = .ok (.putfield 12, 3) := by decide +kernel
theorem d_NJ_init_15 : decode c_NJ_init 15 = .ok (.aload_n 0, 1) := by decide +kernel
theorem d_NJ_init_16 : decode c_NJ_init 16 = .ok (.new 9, 3) := by decide +kernel
theorem d_NJ_init_19 : decode c_NJ_init 19 = .ok (.dup, 1) := by decide +kernel
theorem d_NJ_init_20 : decode c_NJ_init 20 = .ok (.invokespecial 11, 3) := by decide +kernel
theorem d_NJ_init_23 : decode c_NJ_init 23 = .ok (.putfield 16, 3) := by decide +kernel
theorem d_NJ_init_26 : decode c_NJ_init 26 = .ok (.aload_n 0, 1) := by decide +kernel
theorem d_NJ_init_27 : decode c_NJ_init 27 = .ok (.new 9, 3) := by decide +kernel
theorem d_NJ_init_30 : decode c_NJ_init 30 = .ok (.dup, 1) := by decide +kernel
theorem d_NJ_init_31 : decode c_NJ_init 31 = .ok (.invokespecial 11, 3) := by decide +kernel
theorem d_NJ_init_34 : decode c_NJ_init 34 = .ok (.putfield 19, 3) := by decide +kernel
theorem d_NJ_init_37 : decode c_NJ_init 37 = .ok (.aload_n 0, 1) := by decide +kernel
theorem d_NJ_init_38 : decode c_NJ_init 38 = .ok (.new 9, 3) := by decide +kernel
theorem d_NJ_init_41 : decode c_NJ_init 41 = .ok (.dup, 1) := by decide +kernel
theorem d_NJ_init_42 : decode c_NJ_init 42 = .ok (.invokespecial 11, 3) := by decide +kernel
theorem d_NJ_init_45 : decode c_NJ_init 45 = .ok (.putfield 22, 3) := by decide +kernel
theorem d_NJ_init_48 : decode c_NJ_init 48 = .ok (.aload_n 0, 1) := by decide +kernel
theorem d_NJ_init_49 : decode c_NJ_init 49 = .ok (.new 9, 3) := by decide +kernel
theorem d_NJ_init_52 : decode c_NJ_init 52 = .ok (.dup, 1) := by decide +kernel
theorem d_NJ_init_53 : decode c_NJ_init 53 = .ok (.invokespecial 11, 3) := by decide +kernel
theorem d_NJ_init_56 : decode c_NJ_init 56 = .ok (.putfield 25, 3) := by decide +kernel
theorem d_NJ_init_59 : decode c_NJ_init 59 = .ok (.aload_n 0, 1) := by decide +kernel
theorem d_NJ_init_60 : decode c_NJ_init 60 = .ok (.new 9, 3) := by decide +kernel
theorem d_NJ_init_63 : decode c_NJ_init 63 = .ok (.dup, 1) := by decide +kernel
theorem d_NJ_init_64 : decode c_NJ_init 64 = .ok (.invokespecial 11, 3) := by decide +kernel
theorem d_NJ_init_67 : decode c_NJ_init 67 = .ok (.putfield 28, 3) := by decide +kernel
theorem d_NJ_init_70 : decode c_NJ_init 70 = .ok (.aload_n 0, 1) := by decide +kernel
theorem d_NJ_init_71 : decode c_NJ_init 71 = .ok (.new 9, 3) := by decide +kernel
theorem d_NJ_init_74 : decode c_NJ_init 74 = .ok (.dup, 1) := by decide +kernel
theorem d_NJ_init_75 : decode c_NJ_init 75 = .ok (.invokespecial 11, 3) := by decide +kernel
theorem d_NJ_init_78 : decode c_NJ_init 78 = .ok (.putfield 31, 3) := by decide +kernel
theorem d_NJ_init_81 : decode c_NJ_init 81 = .ok (.aload_n 0, 1) := by decide +kernel
theorem d_NJ_init_82 : decode c_NJ_init 82 = .ok (.new 9, 3) := by decide +kernel
theorem d_NJ_init_85 : decode c_NJ_init 85 = .ok (.dup, 1) := by decide +kernel
theorem d_NJ_init_86 : decode c_NJ_init 86 = .ok (.invokespecial 11, 3) := by decide +kernel
theorem d_NJ_init_89 : decode c_NJ_init 89 = .ok (.putfield 34, 3) := by decide +kernel
theorem d_NJ_init_92 : decode c_NJ_init 92 = .ok (.aload_n 0, 1) := by decide +kernel
theorem d_NJ_init_93 : decode c_NJ_init 93 = .ok (.sipush 1000, 3) := by decide +kernel
theorem d_NJ_init_96 : decode c_NJ_init 96 = .ok (.newarray .int, 2) := by decide +kernel
theorem d_NJ_init_98 : decode c_NJ_init 98 = .ok (.putfield 37, 3) := by decide +kernel
theorem d_NJ_init_101 : decode c_NJ_init 101 = .ok (.aload_n 0, 1) := by decide +kernel
theorem d_NJ_init_102 : decode c_NJ_init 102 = .ok (.new 41, 3) := by decide +kernel
theorem d_NJ_init_105 : decode c_NJ_init 105 = .ok (.dup, 1) := by decide +kernel
theorem d_NJ_init_106 : decode c_NJ_init 106 = .ok (.iconst 1, 1) := by decide +kernel
theorem d_NJ_init_107 : decode c_NJ_init 107 = .ok (.sipush 220, 3) := by decide +kernel
theorem d_NJ_init_110 : decode c_NJ_init 110 = .ok (.invokespecial 43, 3) := by decide +kernel
theorem d_NJ_init_113 : decode c_NJ_init 113 = .ok (.putfield 46, 3) := by decide +kernel
theorem d_NJ_init_116 : decode c_NJ_init 116 = .ok (.aload_n 0, 1) := by decide +kernel
theorem d_NJ_init_117 : decode c_NJ_init 117 = .ok (.new 41, 3) := by decide +kernel
theorem d_NJ_init_120 : decode c_NJ_init 120 = .ok (.dup, 1) := by decide +kernel
theorem d_NJ_init_121 : decode c_NJ_init 121 = .ok (.bipush 17, 2) := by decide +kernel
theorem d_NJ_init_123 : decode c_NJ_init 123 = .ok (.sipush 1060, 3) := by decide +kernel
theorem d_NJ_init_126 : decode c_NJ_init 126 = .ok (.invokespecial 43, 3) := by decide +kernel
theorem d_NJ_init_129 : decode c_NJ_init 129 = .ok (.putfield 50, 3) := by decide +kernel
theorem d_NJ_init_132 : decode c_NJ_init 132 = .ok (.aload_n 0, 1) := by decide +kernel
theorem d_NJ_init_133 : decode c_NJ_init 133 = .ok (.new 53, 3) := by decide +kernel
theorem d_NJ_init_136 : decode c_NJ_init 136 = .ok (.dup, 1) := by decide +kernel
theorem d_NJ_init_137 : decode c_NJ_init 137 = .ok (.invokespecial 55, 3) := by decide +kernel
theorem d_NJ_init_140 : decode c_NJ_init 140 = .ok (.putfield 56, 3) := by decide +kernel
theorem d_NJ_init_143 : decode c_NJ_init 143 = .ok (.aload_n 0, 1) := by decide +kernel
theorem d_NJ_init_144 : decode c_NJ_init 144 = .ok (.sipush 961, 3) := by decide +kernel
theorem d_NJ_init_147 : decode c_NJ_init 147 = .ok (.newarray .int, 2) := by decide +kernel
theorem d_NJ_init_149 : decode c_NJ_init 149 = .ok (.putfield 60, 3) := by decide +kernel
theorem d_NJ_init_152 : decode c_NJ_init 152 = .ok (.aload_n 0, 1) := by decide +kernel
theorem d_NJ_init_153 : decode c_NJ_init 153 = .ok (.sipush 960, 3) := by decide +kernel
theorem d_NJ_init_156 : decode c_NJ_init 156 = .ok (.newarray .int, 2) := by decide +kernel
theorem d_NJ_init_158 : decode c_NJ_init 158 = .ok (.putfield 63, 3) := by decide +kernel
theorem d_NJ_init_161 : decode c_NJ_init 161 = .ok (.aload_n 0, 1) := by decide +kernel
theorem d_NJ_init_162 : decode c_NJ_init 162 = .ok (.sipush 1080, 3) := by decide +kernel
theorem d_NJ_init_165 : decode c_NJ_init 165 = .ok (.newarray .int, 2) := by decide +kernel
theorem d_NJ_init_167 : decode c_NJ_init 167 = .ok (.putfield 66, 3) := by decide +kernel
theorem d_NJ_init_170 : decode c_NJ_init 170 = .ok (.return_, 1) := by decide +kernel
