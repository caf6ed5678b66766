abbrev c_Mod_init : ByteArray := prog_10_method_1_code
def y_Mod_init : MethodName := ⟨"NetJoinsModel", "<init>", "()V"⟩
theorem ok_Mod_init : iOK y_Mod_init c_Mod_init 1 0 := ⟨kw_1133, kw_1132, kw_8, rfl, by decide +kernel⟩
theorem d_Mod_init_0 : decode c_Mod_init 0 = .ok (.aload_n 0, 1) := by decide +kernel
theorem d_Mod_init_1 : decode c_Mod_init 1 = .ok (.invokespecial 1, 3) := by decide +kernel
theorem d_Mod_init_4 : decode c_Mod_init 4 = .ok (.aload_n 0, 1) := by decide +kernel
theorem d_Mod_init_5 : decode c_Mod_init 5 = .ok (.bipush 16, 2) := by decide +kernel
theorem d_Mod_init_7 : decode c_Mod_init 7 = .ok (.newarray .int, 2) := by decide +kernel
theorem d_Mod_init_9 : decode c_Mod_init 9 = .ok (.putfield 7, 3) := by decide +kernel
theorem d_Mod_init_12 : decode c_Mod_init 12 = .ok (.aload_n 0, 1) := by decide +kernel
theorem d_Mod_init_13 : decode c_Mod_init 13 = .ok (.bipush 16, 2) := by decide +kernel
theorem d_Mod_init_15 : decode c_Mod_init 15 = .ok (.newarray .int, 2) := by decide +kernel
theorem d_Mod_init_17 : decode c_Mod_init 17 = .ok (.putfield 13, 3) := by decide +kernel
theorem d_Mod_init_20 : decode c_Mod_init 20 = .ok (.aload_n 0, 1) := by decide +kernel
theorem d_Mod_init_21 : decode c_Mod_init 21 = .ok (.bipush 100, 2) := by decide +kernel
theorem d_Mod_init_23 : decode c_Mod_init 23 = .ok (.newarray .int, 2) := by decide +kernel
theorem d_Mod_init_25 : decode c_Mod_init 25 = .ok (.putfield 16, 3) := by decide +kernel
theorem d_Mod_init_28 : decode c_Mod_init 28 = .ok (.aload_n 0, 1) := by decide +kernel
theorem d_Mod_init_29 : decode c_Mod_init 29 = .ok (.sipush 400, 3) := by decide +kernel
theorem d_Mod_init_32 : decode c_Mod_init 32 = .ok (.newarray .long, 2) := by decide +kernel
theorem d_Mod_init_34 : decode c_Mod_init 34 = .ok (.putfield 19, 3) := by decide +kernel
theorem d_Mod_init_37 : decode c_Mod_init 37 = .ok (.aload_n 0, 1) := by decide +kernel
theorem d_Mod_init_38 : decode c_Mod_init 38 = .ok (.bipush 100, 2) := by decide +kernel
theorem d_Mod_init_40 : decode c_Mod_init 40 = .ok (.newarray .boolean, 2) := by decide +kernel
theorem d_Mod_init_42 : decode c_Mod_init 42 = .ok (.putfield 23, 3) := by decide +kernel
theorem d_Mod_init_45 : decode c_Mod_init 45 = .ok (.aload_n 0, 1) := by decide +kernel
theorem d_Mod_init_46 : decode c_Mod_init 46 = .ok (.bipush 50, 2) := by decide +kernel
theorem d_Mod_init_48 : decode c_Mod_init 48 = .ok (.newarray .int, 2) := by decide +kernel
theorem d_Mod_init_50 : decode c_Mod_init 50 = .ok (.putfield 27, 3) := by decide +kernel
theorem d_Mod_init_53 : decode c_Mod_init 53 = .ok (.aload_n 0, 1) := by decide +kernel
theorem d_Mod_init_54 : decode c_Mod_init 54 = .ok (.bipush 100, 2) := by decide +kernel
theorem d_Mod_init_56 : decode c_Mod_init 56 = .ok (.newarray .long, 2) := by decide +kernel
theorem d_Mod_init_58 : decode c_Mod_init 58 = .ok (.putfield 30, 3) := by decide +kernel
theorem d_Mod_init_61 : decode c_Mod_init 61 = .ok (.aload_n 0, 1) := by decide +kernel
theorem d_Mod_init_62 : decode c_Mod_init 62 = .ok (.bipush 60, 2) := by decide +kernel
theorem d_Mod_init_64 : decode c_Mod_init 64 = .ok (.newarray .int, 2) := by decide +kernel
theorem d_Mod_init_66 : decode c_Mod_init 66 = .ok (.putfield 33, 3) := by decide +kernel
theorem d_Mod_init_69 : decode c_Mod_init 69 = .ok (.aload_n 0, 1) := by decide +kernel
theorem d_Mod_init_70 : decode c_Mod_init 70 = .ok (.bipush 60, 2) := by decide +kernel
theorem d_Mod_init_72 : decode c_Mod_init 72 = .ok (.newarray .int, 2) := by decide +kernel
theorem d_Mod_init_74 : decode c_Mod_init 74 = .ok (.putfield 36, 3) := by decide +kernel
theorem d_Mod_init_77 : decode c_Mod_init 77 = .ok (.aload_n 0, 1) := by decide +kernel
theorem d_Mod_init_78 : decode c_Mod_init 78 = .ok (.bipush 120, 2) := by decide +kernel
theorem d_Mod_init_80 : decode c_Mod_init 80 = .ok (.newarray .long, 2) := by decide +kernel
theorem d_Mod_init_82 : decode c_Mod_init 82 = .ok (.putfield 39, 3) := by decide +kernel
theorem d_Mod_init_85 : decode c_Mod_init 85 = .ok (.aload_n 0, 1) := by decide +kernel
theorem d_Mod_init_86 : decode c_Mod_init 86 = .ok (.bipush 60, 2) := by decide +kernel
theorem d_Mod_init_88 : decode c_Mod_init 88 = .ok (.newarray .int, 2) := by decide +kernel
theorem d_Mod_init_90 : decode c_Mod_init 90 = .ok (.putfield 42, 3) := by decide +kernel
theorem d_Mod_init_93 : decode c_Mod_init 93 = .ok (.aload_n 0, 1) := by decide +kernel
theorem d_Mod_init_94 : decode c_Mod_init 94 = .ok (.bipush 60, 2) := by decide +kernel
theorem d_Mod_init_96 : decode c_Mod_init 96 = .ok (.newarray .int, 2) := by decide +kernel
theorem d_Mod_init_98 : decode c_Mod_init 98 = .ok (.putfield 45, 3) := by decide +kernel
theorem d_Mod_init_101 : decode c_Mod_init 101 = .ok (.aload_n 0, 1) := by decide +kernel
theorem d_Mod_init_102 : decode c_Mod_init 102 = .ok (.bipush 120, 2) := by decide +kernel
theorem d_Mod_init_104 : decode c_Mod_init 104 = .ok (.newarray .long, 2) := by decide +kernel
theorem d_Mod_init_106 : decode c_Mod_init 106 = .ok (.putfield 48, 3) := by decide +kernel
theorem d_Mod_init_109 : decode c_Mod_init 109 = .ok (.aload_n 0, 1) := by decide +kernel
theorem d_Mod_init_110 : decode c_Mod_init 110 = .ok (.bipush 60, 2) := by decide +kernel
theorem d_Mod_init_112 : decode c_Mod_init 112 = .ok (.newarray .boolean, 2) := by decide +kernel
theorem d_Mod_init_114 : decode c_Mod_init 114 = .ok (.putfield 51, 3) := by decide +kernel
theorem d_Mod_init_117 : decode c_Mod_init 117 = .ok (.aload_n 0, 1) := by decide +kernel
theorem d_Mod_init_118 : decode c_Mod_init 118 = .ok (.bipush 90, 2) := by decide +kernel
theorem d_Mod_init_120 : decode c_Mod_init 120 = .ok (.newarray .int, 2) := by decide +kernel
theorem d_Mod_init_122 : decode c_Mod_init 122 = .ok (.putfield 54, 3) := by decide +kernel
theorem d_Mod_init_125 : decode c_Mod_init 125 = .ok (.aload_n 0, 1) := by decide +kernel
theorem d_Mod_init_126 : decode c_Mod_init 126 = .ok (.bipush 64, 2) := by decide +kernel
theorem d_Mod_init_128 : decode c_Mod_init 128 = .ok (.newarray .int, 2) := by decide +kernel
theorem d_Mod_init_130 : decode c_Mod_init 130 = .ok (.putfield 57, 3) := by decide +kernel
theorem d_Mod_init_133 : decode c_Mod_init 133 = .ok (.aload_n 0, 1) := by decide +kernel
theorem d_Mod_init_134 : decode c_Mod_init 134 = .ok (.sipush 1000, 3) := by decide +kernel
theorem d_Mod_init_137 : decode c_Mod_init 137 = .ok (.newarray .int, 2) := by decide +kernel
theorem d_Mod_init_139 : decode c_Mod_init 139 = .ok (.putfield 60, 3) := by decide +kernel
theorem d_Mod_init_142 : decode c_Mod_init 142 = .ok (.aload_n 0, 1) := by decide +kernel
theorem d_Mod_init_143 : decode c_Mod_init 143 = .ok (.sipush 19520, 3) := by decide +kernel
theorem d_Mod_init_146 : decode c_Mod_init 146 = .ok (.newarray .int, 2) := by decide +kernel
theorem d_Mod_init_148 : decode c_Mod_init 148 = .ok (.putfield 63, 3) := by decide +kernel
theorem d_Mod_init_151 : decode c_Mod_init 151 = .ok (.aload_n 0, 1) := by decide +kernel
theorem d_Mod_init_152 : decode c_Mod_init 152 = .ok (.sipush 19520, 3) := by decide +kernel
theorem d_Mod_init_155 : decode c_Mod_init 155 = .ok (.newarray .int, 2) := by decide +kernel
theorem d_Mod_init_157 : decode c_Mod_init 157 = .ok (.putfield 66, 3) := by decide +kernel
theorem d_Mod_init_160 : decode c_Mod_init 160 = .ok (.aload_n 0, 1) := by decide +kernel
theorem d_Mod_init_161 : decode c_Mod_init 161 = .ok (.sipush 960, 3) := by decide +kernel
theorem d_Mod_init_164 : decode c_Mod_init 164 = .ok (.newarray .int, 2) := by decide +kernel
theorem d_Mod_init_166 : decode c_Mod_init 166 = .ok (.putfield 69, 3) := by decide +kernel
theorem d_Mod_init_169 : decode c_Mod_init 169 = .ok (.aload_n 0, 1) := by decide +kernel
theorem d_Mod_init_170 : decode c_Mod_init 170 = .ok (.sipush 960, 3) := by decide +kernel
theorem d_Mod_init_173 : decode c_Mod_init 173 = .ok (.newarray .int, 2) := by decide +kernel
theorem d_Mod_init_175 : decode c_Mod_init 175 = .ok (.putfield 72, 3) := by decide +kernel
theorem d_Mod_init_178 : decode c_Mod_init 178 = .ok (.aload_n 0, 1) := by decide +kernel
theorem d_Mod_init_179 : decode c_Mod_init 179 = .ok (.sipush 960, 3) := by decide +kernel
theorem d_Mod_init_182 : decode c_Mod_init 182 = .ok (.newarray .boolean, 2) := by decide +kernel
theorem d_Mod_init_184 : decode c_Mod_init 184 = .ok (.putfield 75, 3) := by decide +kernel
theorem d_Mod_init_187 : decode c_Mod_init 187 = .ok (.return_, 1) := by decide +kernel
abbrev c_Mod_thrown : ByteArray := prog_10_method_2_code
def y_Mod_thrown : MethodName := ⟨"NetJoinsModel", "thrown", "()I"⟩
theorem ok_Mod_thrown : vOK y_Mod_thrown c_Mod_thrown 1 (some .int) 0 := ⟨kw_1239, kw_1237, kw_1238, kw_8, by decide +kernel⟩
theorem d_Mod_thrown_0 : decode c_Mod_thrown 0 = .ok (.aload_n 0, 1) := by decide +kernel
theorem d_Mod_thrown_1 : decode c_Mod_thrown 1 = .ok (.getfield 78, 3) := by decide +kernel
theorem d_Mod_thrown_4 : decode c_Mod_thrown 4 = .ok (.ireturn, 1) := by decide +kernel
abbrev c_Mod_isSheet : ByteArray := prog_10_method_3_code
def y_Mod_isSheet : MethodName := ⟨"NetJoinsModel", "isSheet", "(I)Z"⟩
theorem ok_Mod_isSheet : vOK y_Mod_isSheet c_Mod_isSheet 2 (some .boolean) 1 := ⟨kw_1247, kw_1246, ks_46, kw_8, by decide +kernel⟩
theorem d_Mod_isSheet_0 : decode c_Mod_isSheet 0 = .ok (.iload_n 1, 1) := by decide +kernel
theorem d_Mod_isSheet_1 : decode c_Mod_isSheet 1 = .ok (.ifCond .lt 15, 3) := by decide +kernel
theorem d_Mod_isSheet_4 : decode c_Mod_isSheet 4 = .ok (.iload_n 1, 1) := by decide +kernel
theorem d_Mod_isSheet_5 : decode c_Mod_isSheet 5 = .ok (.aload_n 0, 1) := by decide +kernel
theorem d_Mod_isSheet_6 : decode c_Mod_isSheet 6 = .ok (.getfield 82, 3) := by decide +kernel
theorem d_Mod_isSheet_9 : decode c_Mod_isSheet 9 = .ok (.if_icmp .ge 7, 3) := by decide +kernel
theorem d_Mod_isSheet_12 : decode c_Mod_isSheet 12 = .ok (.iconst 1, 1) := by decide +kernel
theorem d_Mod_isSheet_13 : decode c_Mod_isSheet 13 = .ok (.goto 4, 3) := by decide +kernel
theorem d_Mod_isSheet_16 : decode c_Mod_isSheet 16 = .ok (.iconst 0, 1) := by decide +kernel
theorem d_Mod_isSheet_17 : decode c_Mod_isSheet 17 = .ok (.ireturn, 1) := by decide +kernel
abbrev c_Mod_isOn : ByteArray := prog_10_method_12_code
def y_Mod_isOn : MethodName := ⟨"NetJoinsModel", "isOn", "(II)Z"⟩
theorem ok_Mod_isOn : vOK y_Mod_isOn c_Mod_isOn 3 (some .boolean) 2 := ⟨kw_1267, kw_1266, ks_51, kw_8, by decide +kernel⟩
theorem d_Mod_isOn_0 : decode c_Mod_isOn 0 = .ok (.aload_n 0, 1) := by decide +kernel
theorem d_Mod_isOn_1 : decode c_Mod_isOn 1 = .ok (.getfield 16, 3) := by decide +kernel
theorem d_Mod_isOn_4 : decode c_Mod_isOn 4 = .ok (.iload_n 1, 1) := by decide +kernel
theorem d_Mod_isOn_5 : decode c_Mod_isOn 5 = .ok (.iaload, 1) := by decide +kernel
theorem d_Mod_isOn_6 : decode c_Mod_isOn 6 = .ok (.iload_n 2, 1) := by decide +kernel
theorem d_Mod_isOn_7 : decode c_Mod_isOn 7 = .ok (.if_icmp .ne 16, 3) := by decide +kernel
theorem d_Mod_isOn_10 : decode c_Mod_isOn 10 = .ok (.aload_n 0, 1) := by decide +kernel
theorem d_Mod_isOn_11 : decode c_Mod_isOn 11 = .ok (.getfield 23, 3) := by decide +kernel
theorem d_Mod_isOn_14 : decode c_Mod_isOn 14 = .ok (.iload_n 1, 1) := by decide +kernel
theorem d_Mod_isOn_15 : decode c_Mod_isOn 15 = .ok (.baload, 1) := by decide +kernel
theorem d_Mod_isOn_16 : decode c_Mod_isOn 16 = .ok (.ifCond .ne 7, 3) := by decide +kernel
theorem d_Mod_isOn_19 : decode c_Mod_isOn 19 = .ok (.iconst 1, 1) := by decide +kernel
theorem d_Mod_isOn_20 : decode c_Mod_isOn 20 = .ok (.goto 4, 3) := by decide +kernel
theorem d_Mod_isOn_23 : decode c_Mod_isOn 23 = .ok (.iconst 0, 1) := by decide +kernel
theorem d_Mod_isOn_24 : decode c_Mod_isOn 24 = .ok (.ireturn, 1) := by decide +kernel
abbrev c_Mod_haveEnd : ByteArray := prog_10_method_11_code
def y_Mod_haveEnd : MethodName := ⟨"NetJoinsModel", "haveEnd", "(II)Z"⟩
theorem ok_Mod_haveEnd : vOK y_Mod_haveEnd c_Mod_haveEnd 5 (some .boolean) 2 := ⟨kw_1271, kw_1270, ks_52, kw_8, by decide +kernel⟩
theorem d_Mod_haveEnd_0 : decode c_Mod_haveEnd 0 = .ok (.iconst 0, 1) := by decide +kernel
theorem d_Mod_haveEnd_1 : decode c_Mod_haveEnd 1 = .ok (.istore_n 3, 1) := by decide +kernel
theorem d_Mod_haveEnd_2 : decode c_Mod_haveEnd 2 = .ok (.iload_n 3, 1) := by decide +kernel
theorem d_Mod_haveEnd_3 : decode c_Mod_haveEnd 3 = .ok (.iconst 4, 1) := by decide +kernel
theorem d_Mod_haveEnd_4 : decode c_Mod_haveEnd 4 = .ok (.if_icmp .ge 80, 3) := by decide +kernel
theorem d_Mod_haveEnd_7 : decode c_Mod_haveEnd 7 = .ok (.iconst 0, 1) := by decide +kernel
theorem d_Mod_haveEnd_8 : decode c_Mod_haveEnd 8 = .ok (.istore 4, 2) := by decide +kernel
theorem d_Mod_haveEnd_10 : decode c_Mod_haveEnd 10 = .ok (.iload 4, 2) := by decide +kernel
theorem d_Mod_haveEnd_12 : decode c_Mod_haveEnd 12 = .ok (.iconst 4, 1) := by decide +kernel
theorem d_Mod_haveEnd_13 : decode c_Mod_haveEnd 13 = .ok (.if_icmp .ge 65, 3) := by decide +kernel
theorem d_Mod_haveEnd_16 : decode c_Mod_haveEnd 16 = .ok (.aload_n 0, 1) := by decide +kernel
theorem d_Mod_haveEnd_17 : decode c_Mod_haveEnd 17 = .ok (.getfield 19, 3) := by decide +kernel
theorem d_Mod_haveEnd_20 : decode c_Mod_haveEnd 20 = .ok (.iconst 4, 1) := by decide +kernel
theorem d_Mod_haveEnd_21 : decode c_Mod_haveEnd 21 = .ok (.iload_n 1, 1) := by decide +kernel
theorem d_Mod_haveEnd_22 : decode c_Mod_haveEnd 22 = .ok (.imul, 1) := by decide +kernel
theorem d_Mod_haveEnd_23 : decode c_Mod_haveEnd 23 = .ok (.iload_n 3, 1) := by decide +kernel
theorem d_Mod_haveEnd_24 : decode c_Mod_haveEnd 24 = .ok (.iadd, 1) := by decide +kernel
theorem d_Mod_haveEnd_25 : decode c_Mod_haveEnd 25 = .ok (.laload, 1) := by decide +kernel
theorem d_Mod_haveEnd_26 : decode c_Mod_haveEnd 26 = .ok (.aload_n 0, 1) := by decide +kernel
theorem d_Mod_haveEnd_27 : decode c_Mod_haveEnd 27 = .ok (.getfield 19, 3) := by decide +kernel
theorem d_Mod_haveEnd_30 : decode c_Mod_haveEnd 30 = .ok (.iconst 4, 1) := by decide +kernel
theorem d_Mod_haveEnd_31 : decode c_Mod_haveEnd 31 = .ok (.iload_n 2, 1) := by decide +kernel
theorem d_Mod_haveEnd_32 : decode c_Mod_haveEnd 32 = .ok (.imul, 1) := by decide +kernel
theorem d_Mod_haveEnd_33 : decode c_Mod_haveEnd 33 = .ok (.iload 4, 2) := by decide +kernel
theorem d_Mod_haveEnd_35 : decode c_Mod_haveEnd 35 = .ok (.iadd, 1) := by decide +kernel
theorem d_Mod_haveEnd_36 : decode c_Mod_haveEnd 36 = .ok (.laload, 1) := by decide +kernel
theorem d_Mod_haveEnd_37 : decode c_Mod_haveEnd 37 = .ok (.lcmp, 1) := by decide +kernel
theorem d_Mod_haveEnd_38 : decode c_Mod_haveEnd 38 = .ok (.ifCond .ne 34, 3) := by decide +kernel
theorem d_Mod_haveEnd_41 : decode c_Mod_haveEnd 41 = .ok (.aload_n 0, 1) := by decide +kernel
theorem d_Mod_haveEnd_42 : decode c_Mod_haveEnd 42 = .ok (.getfield 19, 3) := by decide +kernel
theorem d_Mod_haveEnd_45 : decode c_Mod_haveEnd 45 = .ok (.iconst 4, 1) := by decide +kernel
theorem d_Mod_haveEnd_46 : decode c_Mod_haveEnd 46 = .ok (.iload_n 1, 1) := by decide +kernel
theorem d_Mod_haveEnd_47 : decode c_Mod_haveEnd 47 = .ok (.imul, 1) := by decide +kernel
theorem d_Mod_haveEnd_48 : decode c_Mod_haveEnd 48 = .ok (.iload_n 3, 1) := by decide +kernel
theorem d_Mod_haveEnd_49 : decode c_Mod_haveEnd 49 = .ok (.iadd, 1) := by decide +kernel
theorem d_Mod_haveEnd_50 : decode c_Mod_haveEnd 50 = .ok (.iconst 1, 1) := by decide +kernel
theorem d_Mod_haveEnd_51 : decode c_Mod_haveEnd 51 = .ok (.iadd, 1) := by decide +kernel
theorem d_Mod_haveEnd_52 : decode c_Mod_haveEnd 52 = .ok (.laload, 1) := by decide +kernel
theorem d_Mod_haveEnd_53 : decode c_Mod_haveEnd 53 = .ok (.aload_n 0, 1) := by decide +kernel
theorem d_Mod_haveEnd_54 : decode c_Mod_haveEnd 54 = .ok (.getfield 19, 3) := by decide +kernel
theorem d_Mod_haveEnd_57 : decode c_Mod_haveEnd 57 = .ok (.iconst 4, 1) := by decide +kernel
theorem d_Mod_haveEnd_58 : decode c_Mod_haveEnd 58 = .ok (.iload_n 2, 1) := by decide +kernel
theorem d_Mod_haveEnd_59 : decode c_Mod_haveEnd 59 = .ok (.imul, 1) := by decide +kernel
theorem d_Mod_haveEnd_60 : decode c_Mod_haveEnd 60 = .ok (.iload 4, 2) := by decide +kernel
theorem d_Mod_haveEnd_62 : decode c_Mod_haveEnd 62 = .ok (.iadd, 1) := by decide +kernel
theorem d_Mod_haveEnd_63 : decode c_Mod_haveEnd 63 = .ok (.iconst 1, 1) := by decide +kernel
theorem d_Mod_haveEnd_64 : decode c_Mod_haveEnd 64 = .ok (.iadd, 1) := by decide +kernel
theorem d_Mod_haveEnd_65 : decode c_Mod_haveEnd 65 = .ok (.laload, 1) := by decide +kernel
theorem d_Mod_haveEnd_66 : decode c_Mod_haveEnd 66 = .ok (.lcmp, 1) := by decide +kernel
theorem d_Mod_haveEnd_67 : decode c_Mod_haveEnd 67 = .ok (.ifCond .ne 5, 3) := by decide +kernel
theorem d_Mod_haveEnd_70 : decode c_Mod_haveEnd 70 = .ok (.iconst 1, 1) := by decide +kernel
theorem d_Mod_haveEnd_71 : decode c_Mod_haveEnd 71 = .ok (.ireturn, 1) := by decide +kernel
theorem d_Mod_haveEnd_72 : decode c_Mod_haveEnd 72 = .ok (.iinc 4 2, 3) := by decide +kernel
theorem d_Mod_haveEnd_75 : decode c_Mod_haveEnd 75 = .ok (.goto (-65), 3) := by decide +kernel
theorem d_Mod_haveEnd_78 : decode c_Mod_haveEnd 78 = .ok (.iinc 3 2, 3) := by decide +kernel
theorem d_Mod_haveEnd_81 : decode c_Mod_haveEnd 81 = .ok (.goto (-79), 3) := by decide +kernel
theorem d_Mod_haveEnd_84 : decode c_Mod_haveEnd 84 = .ok (.iconst 0, 1) := by decide +kernel
theorem d_Mod_haveEnd_85 : decode c_Mod_haveEnd 85 = .ok (.ireturn, 1) := by decide +kernel
abbrev c_Mod_goesThrough : ByteArray := prog_10_method_10_code
def y_Mod_goesThrough : MethodName := ⟨"NetJoinsModel", "goesThrough", "(IJJ)Z"⟩
theorem ok_Mod_goesThrough : vOK y_Mod_goesThrough c_Mod_goesThrough 15 (some .boolean) 3 := ⟨kw_1275, kw_1274, ks_53, kw_8, by decide +kernel⟩
theorem d_Mod_goesThrough_0 : decode c_Mod_goesThrough 0 = .ok (.aload_n 0, 1) := by decide +kernel
theorem d_Mod_goesThrough_1 : decode c_Mod_goesThrough 1 = .ok (.getfield 19, 3) := by decide +kernel
theorem d_Mod_goesThrough_4 : decode c_Mod_goesThrough 4 = .ok (.iconst 4, 1) := by decide +kernel
theorem d_Mod_goesThrough_5 : decode c_Mod_goesThrough 5 = .ok (.iload_n 1, 1) := by decide +kernel
theorem d_Mod_goesThrough_6 : decode c_Mod_goesThrough 6 = .ok (.imul, 1) := by decide +kernel
theorem d_Mod_goesThrough_7 : decode c_Mod_goesThrough 7 = .ok (.laload, 1) := by decide +kernel
theorem d_Mod_goesThrough_8 : decode c_Mod_goesThrough 8 = .ok (.lstore 6, 2) := by decide +kernel
theorem d_Mod_goesThrough_10 : decode c_Mod_goesThrough 10 = .ok (.aload_n 0, 1) := by decide +kernel
theorem d_Mod_goesThrough_11 : decode c_Mod_goesThrough 11 = .ok (.getfield 19, 3) := by decide +kernel
theorem d_Mod_goesThrough_14 : decode c_Mod_goesThrough 14 = .ok (.iconst 4, 1) := by decide +kernel
theorem d_Mod_goesThrough_15 : decode c_Mod_goesThrough 15 = .ok (.iload_n 1, 1) := by decide +kernel
theorem d_Mod_goesThrough_16 : decode c_Mod_goesThrough 16 = .ok (.imul, 1) := by decide +kernel
theorem d_Mod_goesThrough_17 : decode c_Mod_goesThrough 17 = .ok (.iconst 1, 1) := by decide +kernel
theorem d_Mod_goesThrough_18 : decode c_Mod_goesThrough 18 = .ok (.iadd, 1) := by decide +kernel
theorem d_Mod_goesThrough_19 : decode c_Mod_goesThrough 19 = .ok (.laload, 1) := by decide +kernel
theorem d_Mod_goesThrough_20 : decode c_Mod_goesThrough 20 = .ok (.lstore 8, 2) := by decide +kernel
theorem d_Mod_goesThrough_22 : decode c_Mod_goesThrough 22 = .ok (.aload_n 0, 1) := by decide +kernel
theorem d_Mod_goesThrough_23 : decode c_Mod_goesThrough 23 = .ok (.getfield 19, 3) := by decide +kernel
theorem d_Mod_goesThrough_26 : decode c_Mod_goesThrough 26 = .ok (.iconst 4, 1) := by decide +kernel
theorem d_Mod_goesThrough_27 : decode c_Mod_goesThrough 27 = .ok (.iload_n 1, 1) := by decide +kernel
theorem d_Mod_goesThrough_28 : decode c_Mod_goesThrough 28 = .ok (.imul, 1) := by decide +kernel
theorem d_Mod_goesThrough_29 : decode c_Mod_goesThrough 29 = .ok (.iconst 2, 1) := by decide +kernel
theorem d_Mod_goesThrough_30 : decode c_Mod_goesThrough 30 = .ok (.iadd, 1) := by decide +kernel
theorem d_Mod_goesThrough_31 : decode c_Mod_goesThrough 31 = .ok (.laload, 1) := by decide +kernel
theorem d_Mod_goesThrough_32 : decode c_Mod_goesThrough 32 = .ok (.lstore 10, 2) := by decide +kernel
theorem d_Mod_goesThrough_34 : decode c_Mod_goesThrough 34 = .ok (.aload_n 0, 1) := by decide +kernel
theorem d_Mod_goesThrough_35 : decode c_Mod_goesThrough 35 = .ok (.getfield 19, 3) := by decide +kernel
theorem d_Mod_goesThrough_38 : decode c_Mod_goesThrough 38 = .ok (.iconst 4, 1) := by decide +kernel
theorem d_Mod_goesThrough_39 : decode c_Mod_goesThrough 39 = .ok (.iload_n 1, 1) := by decide +kernel
theorem d_Mod_goesThrough_40 : decode c_Mod_goesThrough 40 = .ok (.imul, 1) := by decide +kernel
theorem d_Mod_goesThrough_41 : decode c_Mod_goesThrough 41 = .ok (.iconst 3, 1) := by decide +kernel
theorem d_Mod_goesThrough_42 : decode c_Mod_goesThrough 42 = .ok (.iadd, 1) := by decide +kernel
theorem d_Mod_goesThrough_43 : decode c_Mod_goesThrough 43 = .ok (.laload, 1) := by decide +kernel
theorem d_Mod_goesThrough_44 : decode c_Mod_goesThrough 44 = .ok (.lstore 12, 2) := by decide +kernel
theorem d_Mod_goesThrough_46 : decode c_Mod_goesThrough 46 = .ok (.lload_n 2, 1) := by decide +kernel
theorem d_Mod_goesThrough_47 : decode c_Mod_goesThrough 47 = .ok (.lload 6, 2) := by decide +kernel
theorem d_Mod_goesThrough_49 : decode c_Mod_goesThrough 49 = .ok (.lcmp, 1) := by decide +kernel
theorem d_Mod_goesThrough_50 : decode c_Mod_goesThrough 50 = .ok (.ifCond .lt 10, 3) := by decide +kernel
theorem d_Mod_goesThrough_53 : decode c_Mod_goesThrough 53 = .ok (.lload_n 2, 1) := by decide +kernel
theorem d_Mod_goesThrough_54 : decode c_Mod_goesThrough 54 = .ok (.lload 10, 2) := by decide +kernel
theorem d_Mod_goesThrough_56 : decode c_Mod_goesThrough 56 = .ok (.lcmp, 1) := by decide +kernel
theorem d_Mod_goesThrough_57 : decode c_Mod_goesThrough 57 = .ok (.ifCond .le 17, 3) := by decide +kernel
theorem d_Mod_goesThrough_60 : decode c_Mod_goesThrough 60 = .ok (.lload_n 2, 1) := by decide +kernel
theorem d_Mod_goesThrough_61 : decode c_Mod_goesThrough 61 = .ok (.lload 10, 2) := by decide +kernel
theorem d_Mod_goesThrough_63 : decode c_Mod_goesThrough 63 = .ok (.lcmp, 1) := by decide +kernel
theorem d_Mod_goesThrough_64 : decode c_Mod_goesThrough 64 = .ok (.ifCond .lt 46, 3) := by decide +kernel
theorem d_Mod_goesThrough_67 : decode c_Mod_goesThrough 67 = .ok (.lload_n 2, 1) := by decide +kernel
theorem d_Mod_goesThrough_68 : decode c_Mod_goesThrough 68 = .ok (.lload 6, 2) := by decide +kernel
theorem d_Mod_goesThrough_70 : decode c_Mod_goesThrough 70 = .ok (.lcmp, 1) := by decide +kernel
theorem d_Mod_goesThrough_71 : decode c_Mod_goesThrough 71 = .ok (.ifCond .gt 39, 3) := by decide +kernel
theorem d_Mod_goesThrough_74 : decode c_Mod_goesThrough 74 = .ok (.lload 4, 2) := by decide +kernel
theorem d_Mod_goesThrough_76 : decode c_Mod_goesThrough 76 = .ok (.lload 8, 2) := by decide +kernel
theorem d_Mod_goesThrough_78 : decode c_Mod_goesThrough 78 = .ok (.lcmp, 1) := by decide +kernel
theorem d_Mod_goesThrough_79 : decode c_Mod_goesThrough 79 = .ok (.ifCond .lt 11, 3) := by decide +kernel
theorem d_Mod_goesThrough_82 : decode c_Mod_goesThrough 82 = .ok (.lload 4, 2) := by decide +kernel
theorem d_Mod_goesThrough_84 : decode c_Mod_goesThrough 84 = .ok (.lload 12, 2) := by decide +kernel
theorem d_Mod_goesThrough_86 : decode c_Mod_goesThrough 86 = .ok (.lcmp, 1) := by decide +kernel
theorem d_Mod_goesThrough_87 : decode c_Mod_goesThrough 87 = .ok (.ifCond .le 19, 3) := by decide +kernel
theorem d_Mod_goesThrough_90 : decode c_Mod_goesThrough 90 = .ok (.lload 4, 2) := by decide +kernel
theorem d_Mod_goesThrough_92 : decode c_Mod_goesThrough 92 = .ok (.lload 12, 2) := by decide +kernel
theorem d_Mod_goesThrough_94 : decode c_Mod_goesThrough 94 = .ok (.lcmp, 1) := by decide +kernel
theorem d_Mod_goesThrough_95 : decode c_Mod_goesThrough 95 = .ok (.ifCond .lt 15, 3) := by decide +kernel
theorem d_Mod_goesThrough_98 : decode c_Mod_goesThrough 98 = .ok (.lload 4, 2) := by decide +kernel
theorem d_Mod_goesThrough_100 : decode c_Mod_goesThrough 100 = .ok (.lload 8, 2) := by decide +kernel
theorem d_Mod_goesThrough_102 : decode c_Mod_goesThrough 102 = .ok (.lcmp, 1) := by decide +kernel
theorem d_Mod_goesThrough_103 : decode c_Mod_goesThrough 103 = .ok (.ifCond .gt 7, 3) := by decide +kernel
theorem d_Mod_goesThrough_106 : decode c_Mod_goesThrough 106 = .ok (.iconst 1, 1) := by decide +kernel
theorem d_Mod_goesThrough_107 : decode c_Mod_goesThrough 107 = .ok (.goto 4, 3) := by decide +kernel
theorem d_Mod_goesThrough_110 : decode c_Mod_goesThrough 110 = .ok (.iconst 0, 1) := by decide +kernel
theorem d_Mod_goesThrough_111 : decode c_Mod_goesThrough 111 = .ok (.istore 14, 2) := by decide +kernel
theorem d_Mod_goesThrough_113 : decode c_Mod_goesThrough 113 = .ok (.iload 14, 2) := by decide +kernel
theorem d_Mod_goesThrough_115 : decode c_Mod_goesThrough 115 = .ok (.ifCond .eq 32, 3) := by decide +kernel
theorem d_Mod_goesThrough_118 : decode c_Mod_goesThrough 118 = .ok (.lload 10, 2) := by decide +kernel
theorem d_Mod_goesThrough_120 : decode c_Mod_goesThrough 120 = .ok (.lload 6, 2) := by decide +kernel
theorem d_Mod_goesThrough_122 : decode c_Mod_goesThrough 122 = .ok (.lsub, 1) := by decide +kernel
theorem d_Mod_goesThrough_123 : decode c_Mod_goesThrough 123 = .ok (.lload 4, 2) := by decide +kernel
theorem d_Mod_goesThrough_125 : decode c_Mod_goesThrough 125 = .ok (.lload 8, 2) := by decide +kernel
theorem d_Mod_goesThrough_127 : decode c_Mod_goesThrough 127 = .ok (.lsub, 1) := by decide +kernel
theorem d_Mod_goesThrough_128 : decode c_Mod_goesThrough 128 = .ok (.lmul, 1) := by decide +kernel
theorem d_Mod_goesThrough_129 : decode c_Mod_goesThrough 129 = .ok (.lload 12, 2) := by decide +kernel
theorem d_Mod_goesThrough_131 : decode c_Mod_goesThrough 131 = .ok (.lload 8, 2) := by decide +kernel
theorem d_Mod_goesThrough_133 : decode c_Mod_goesThrough 133 = .ok (.lsub, 1) := by decide +kernel
theorem d_Mod_goesThrough_134 : decode c_Mod_goesThrough 134 = .ok (.lload_n 2, 1) := by decide +kernel
theorem d_Mod_goesThrough_135 : decode c_Mod_goesThrough 135 = .ok (.lload 6, 2) := by decide +kernel
theorem d_Mod_goesThrough_137 : decode c_Mod_goesThrough 137 = .ok (.lsub, 1) := by decide +kernel
theorem d_Mod_goesThrough_138 : decode c_Mod_goesThrough 138 = .ok (.lmul, 1) := by decide +kernel
theorem d_Mod_goesThrough_139 : decode c_Mod_goesThrough 139 = .ok (.lcmp, 1) := by decide +kernel
theorem d_Mod_goesThrough_140 : decode c_Mod_goesThrough 140 = .ok (.ifCond .ne 7, 3) := by decide +kernel
theorem d_Mod_goesThrough_143 : decode c_Mod_goesThrough 143 = .ok (.iconst 1, 1) := by decide +kernel
theorem d_Mod_goesThrough_144 : decode c_Mod_goesThrough 144 = .ok (.goto 4, 3) := by decide +kernel
theorem d_Mod_goesThrough_147 : decode c_Mod_goesThrough 147 = .ok (.iconst 0, 1) := by decide +kernel
theorem d_Mod_goesThrough_148 : decode c_Mod_goesThrough 148 = .ok (.ireturn, 1) := by decide +kernel
abbrev c_Mod_leader : ByteArray := prog_10_method_7_code
def y_Mod_leader : MethodName := ⟨"NetJoinsModel", "leader", "(I)I"⟩
theorem ok_Mod_leader : vOK y_Mod_leader c_Mod_leader 3 (some .int) 1 := ⟨kw_1283, kw_1282, ks_55, kw_8, by decide +kernel⟩
theorem d_Mod_leader_0 : decode c_Mod_leader 0 = .ok (.iload_n 1, 1) := by decide +kernel
theorem d_Mod_leader_1 : decode c_Mod_leader 1 = .ok (.istore_n 2, 1) := by decide +kernel
theorem d_Mod_leader_2 : decode c_Mod_leader 2 = .ok (.aload_n 0, 1) := by decide +kernel
theorem d_Mod_leader_3 : decode c_Mod_leader 3 = .ok (.getfield 63, 3) := by decide +kernel
theorem d_Mod_leader_6 : decode c_Mod_leader 6 = .ok (.iload_n 2, 1) := by decide +kernel
theorem d_Mod_leader_7 : decode c_Mod_leader 7 = .ok (.iaload, 1) := by decide +kernel
theorem d_Mod_leader_8 : decode c_Mod_leader 8 = .ok (.iload_n 2, 1) := by decide +kernel
theorem d_Mod_leader_9 : decode c_Mod_leader 9 = .ok (.if_icmp .eq 13, 3) := by decide +kernel
theorem d_Mod_leader_12 : decode c_Mod_leader 12 = .ok (.aload_n 0, 1) := by decide +kernel
theorem d_Mod_leader_13 : decode c_Mod_leader 13 = .ok (.getfield 63, 3) := by decide +kernel
theorem d_Mod_leader_16 : decode c_Mod_leader 16 = .ok (.iload_n 2, 1) := by decide +kernel
theorem d_Mod_leader_17 : decode c_Mod_leader 17 = .ok (.iaload, 1) := by decide +kernel
theorem d_Mod_leader_18 : decode c_Mod_leader 18 = .ok (.istore_n 2, 1) := by decide +kernel
theorem d_Mod_leader_19 : decode c_Mod_leader 19 = .ok (.goto (-17), 3) := by decide +kernel
theorem d_Mod_leader_22 : decode c_Mod_leader 22 = .ok (.iload_n 2, 1) := by decide +kernel
theorem d_Mod_leader_23 : decode c_Mod_leader 23 = .ok (.ireturn, 1) := by decide +kernel
abbrev c_Mod_join : ByteArray := prog_10_method_8_code
def y_Mod_join : MethodName := ⟨"NetJoinsModel", "join", "(II)V"⟩
theorem ok_Mod_join : vOK y_Mod_join c_Mod_join 5 none 2 := ⟨kw_1279, kw_1278, ks_54, kw_8, by decide +kernel⟩
theorem d_Mod_join_0 : decode c_Mod_join 0 = .ok (.aload_n 0, 1) := by decide +kernel
theorem d_Mod_join_1 : decode c_Mod_join 1 = .ok (.iload_n 1, 1) := by decide +kernel
theorem d_Mod_join_2 : decode c_Mod_join 2 = .ok (.invokevirtual 93, 3) := by decide +kernel
theorem d_Mod_join_5 : decode c_Mod_join 5 = .ok (.istore_n 3, 1) := by decide +kernel
theorem d_Mod_join_6 : decode c_Mod_join 6 = .ok (.aload_n 0, 1) := by decide +kernel
theorem d_Mod_join_7 : decode c_Mod_join 7 = .ok (.iload_n 2, 1) := by decide +kernel
theorem d_Mod_join_8 : decode c_Mod_join 8 = .ok (.invokevirtual 93, 3) := by decide +kernel
theorem d_Mod_join_11 : decode c_Mod_join 11 = .ok (.istore 4, 2) := by decide +kernel
theorem d_Mod_join_13 : decode c_Mod_join 13 = .ok (.iload_n 3, 1) := by decide +kernel
theorem d_Mod_join_14 : decode c_Mod_join 14 = .ok (.iload 4, 2) := by decide +kernel
theorem d_Mod_join_16 : decode c_Mod_join 16 = .ok (.if_icmp .ge 14, 3) := by decide +kernel
theorem d_Mod_join_19 : decode c_Mod_join 19 = .ok (.aload_n 0, 1) := by decide +kernel
theorem d_Mod_join_20 : decode c_Mod_join 20 = .ok (.getfield 63, 3) := by decide +kernel
theorem d_Mod_join_23 : decode c_Mod_join 23 = .ok (.iload 4, 2) := by decide +kernel
theorem d_Mod_join_25 : decode c_Mod_join 25 = .ok (.iload_n 3, 1) := by decide +kernel
theorem d_Mod_join_26 : decode c_Mod_join 26 = .ok (.iastore, 1) := by decide +kernel
theorem d_Mod_join_27 : decode c_Mod_join 27 = .ok (.goto 11, 3) := by decide +kernel
theorem d_Mod_join_30 : decode c_Mod_join 30 = .ok (.aload_n 0, 1) := by decide +kernel
theorem d_Mod_join_31 : decode c_Mod_join 31 = .ok (.getfield 63, 3) := by decide +kernel
theorem d_Mod_join_34 : decode c_Mod_join 34 = .ok (.iload_n 3, 1) := by decide +kernel
theorem d_Mod_join_35 : decode c_Mod_join 35 = .ok (.iload 4, 2) := by decide +kernel
theorem d_Mod_join_37 : decode c_Mod_join 37 = .ok (.iastore, 1) := by decide +kernel
theorem d_Mod_join_38 : decode c_Mod_join 38 = .ok (.aload_n 0, 1) := by decide +kernel
theorem d_Mod_join_39 : decode c_Mod_join 39 = .ok (.getfield 63, 3) := by decide +kernel
theorem d_Mod_join_42 : decode c_Mod_join 42 = .ok (.iload_n 1, 1) := by decide +kernel
theorem d_Mod_join_43 : decode c_Mod_join 43 = .ok (.iload_n 3, 1) := by decide +kernel
theorem d_Mod_join_44 : decode c_Mod_join 44 = .ok (.iload 4, 2) := by decide +kernel
theorem d_Mod_join_46 : decode c_Mod_join 46 = .ok (.if_icmp .ge 7, 3) := by decide +kernel
theorem d_Mod_join_49 : decode c_Mod_join 49 = .ok (.iload_n 3, 1) := by decide +kernel
theorem d_Mod_join_50 : decode c_Mod_join 50 = .ok (.goto 5, 3) := by decide +kernel
theorem d_Mod_join_53 : decode c_Mod_join 53 = .ok (.iload 4, 2) := by decide +kernel
theorem d_Mod_join_55 : decode c_Mod_join 55 = .ok (.iastore, 1) := by decide +kernel
theorem d_Mod_join_56 : decode c_Mod_join 56 = .ok (.aload_n 0, 1) := by decide +kernel
theorem d_Mod_join_57 : decode c_Mod_join 57 = .ok (.getfield 63, 3) := by decide +kernel
theorem d_Mod_join_60 : decode c_Mod_join 60 = .ok (.iload_n 2, 1) := by decide +kernel
theorem d_Mod_join_61 : decode c_Mod_join 61 = .ok (.iload_n 3, 1) := by decide +kernel
theorem d_Mod_join_62 : decode c_Mod_join 62 = .ok (.iload 4, 2) := by decide +kernel
theorem d_Mod_join_64 : decode c_Mod_join 64 = .ok (.if_icmp .ge 7, 3) := by decide +kernel
theorem d_Mod_join_67 : decode c_Mod_join 67 = .ok (.iload_n 3, 1) := by decide +kernel
theorem d_Mod_join_68 : decode c_Mod_join 68 = .ok (.goto 5, 3) := by decide +kernel
theorem d_Mod_join_71 : decode c_Mod_join 71 = .ok (.iload 4, 2) := by decide +kernel
theorem d_Mod_join_73 : decode c_Mod_join 73 = .ok (.iastore, 1) := by decide +kernel
theorem d_Mod_join_74 : decode c_Mod_join 74 = .ok (.return_, 1) := by decide +kernel
abbrev c_Mod_joinWires : ByteArray := prog_10_method_13_code
def y_Mod_joinWires : MethodName := ⟨"NetJoinsModel", "joinWires", "(II)V"⟩
theorem ok_Mod_joinWires : vOK y_Mod_joinWires c_Mod_joinWires 8 none 2 := ⟨kw_1263, kw_1262, ks_50, kw_8, by decide +kernel⟩
theorem d_Mod_joinWires_0 : decode c_Mod_joinWires 0 = .ok (.iconst 0, 1) := by decide +kernel
theorem d_Mod_joinWires_1 : decode c_Mod_joinWires 1 = .ok (.istore_n 3, 1) := by decide +kernel
theorem d_Mod_joinWires_2 : decode c_Mod_joinWires 2 = .ok (.iload_n 3, 1) := by decide +kernel
theorem d_Mod_joinWires_3 : decode c_Mod_joinWires 3 = .ok (.aload_n 0, 1) := by decide +kernel
theorem d_Mod_joinWires_4 : decode c_Mod_joinWires 4 = .ok (.getfield 97, 3) := by decide +kernel
theorem d_Mod_joinWires_7 : decode c_Mod_joinWires 7 = .ok (.if_icmp .ge 197, 3) := by decide +kernel
theorem d_Mod_joinWires_10 : decode c_Mod_joinWires 10 = .ok (.iconst 0, 1) := by decide +kernel
theorem d_Mod_joinWires_11 : decode c_Mod_joinWires 11 = .ok (.istore 4, 2) := by decide +kernel
theorem d_Mod_joinWires_13 : decode c_Mod_joinWires 13 = .ok (.iload 4, 2) := by decide +kernel
theorem d_Mod_joinWires_15 : decode c_Mod_joinWires 15 = .ok (.iload_n 3, 1) := by decide +kernel
theorem d_Mod_joinWires_16 : decode c_Mod_joinWires 16 = .ok (.if_icmp .ge 182, 3) := by decide +kernel
theorem d_Mod_joinWires_19 : decode c_Mod_joinWires 19 = .ok (.aload_n 0, 1) := by decide +kernel
theorem d_Mod_joinWires_20 : decode c_Mod_joinWires 20 = .ok (.iload_n 3, 1) := by decide +kernel
theorem d_Mod_joinWires_21 : decode c_Mod_joinWires 21 = .ok (.iload_n 2, 1) := by decide +kernel
theorem d_Mod_joinWires_22 : decode c_Mod_joinWires 22 = .ok (.invokevirtual 100, 3) := by decide +kernel
theorem d_Mod_joinWires_25 : decode c_Mod_joinWires 25 = .ok (.ifCond .eq 17, 3) := by decide +kernel
theorem d_Mod_joinWires_28 : decode c_Mod_joinWires 28 = .ok (.aload_n 0, 1) := by decide +kernel
theorem d_Mod_joinWires_29 : decode c_Mod_joinWires 29 = .ok (.iload 4, 2) := by decide +kernel
theorem d_Mod_joinWires_31 : decode c_Mod_joinWires 31 = .ok (.iload_n 2, 1) := by decide +kernel
theorem d_Mod_joinWires_32 : decode c_Mod_joinWires 32 = .ok (.invokevirtual 100, 3) := by decide +kernel
theorem d_Mod_joinWires_35 : decode c_Mod_joinWires 35 = .ok (.ifCond .eq 7, 3) := by decide +kernel
theorem d_Mod_joinWires_38 : decode c_Mod_joinWires 38 = .ok (.iconst 1, 1) := by decide +kernel
theorem d_Mod_joinWires_39 : decode c_Mod_joinWires 39 = .ok (.goto 4, 3) := by decide +kernel
theorem d_Mod_joinWires_42 : decode c_Mod_joinWires 42 = .ok (.iconst 0, 1) := by decide +kernel
theorem d_Mod_joinWires_43 : decode c_Mod_joinWires 43 = .ok (.istore 5, 2) := by decide +kernel
theorem d_Mod_joinWires_45 : decode c_Mod_joinWires 45 = .ok (.iload 5, 2) := by decide +kernel
theorem d_Mod_joinWires_47 : decode c_Mod_joinWires 47 = .ok (.ifCond .eq 17, 3) := by decide +kernel
theorem d_Mod_joinWires_50 : decode c_Mod_joinWires 50 = .ok (.aload_n 0, 1) := by decide +kernel
theorem d_Mod_joinWires_51 : decode c_Mod_joinWires 51 = .ok (.iload_n 3, 1) := by decide +kernel
theorem d_Mod_joinWires_52 : decode c_Mod_joinWires 52 = .ok (.iload 4, 2) := by decide +kernel
theorem d_Mod_joinWires_54 : decode c_Mod_joinWires 54 = .ok (.invokevirtual 104, 3) := by decide +kernel
theorem d_Mod_joinWires_57 : decode c_Mod_joinWires 57 = .ok (.ifCond .eq 7, 3) := by decide +kernel
theorem d_Mod_joinWires_60 : decode c_Mod_joinWires 60 = .ok (.iconst 1, 1) := by decide +kernel
theorem d_Mod_joinWires_61 : decode c_Mod_joinWires 61 = .ok (.goto 4, 3) := by decide +kernel
theorem d_Mod_joinWires_64 : decode c_Mod_joinWires 64 = .ok (.iconst 0, 1) := by decide +kernel
theorem d_Mod_joinWires_65 : decode c_Mod_joinWires 65 = .ok (.istore 6, 2) := by decide +kernel
theorem d_Mod_joinWires_67 : decode c_Mod_joinWires 67 = .ok (.iconst 0, 1) := by decide +kernel
theorem d_Mod_joinWires_68 : decode c_Mod_joinWires 68 = .ok (.istore 7, 2) := by decide +kernel
theorem d_Mod_joinWires_70 : decode c_Mod_joinWires 70 = .ok (.iload 7, 2) := by decide +kernel
theorem d_Mod_joinWires_72 : decode c_Mod_joinWires 72 = .ok (.aload_n 0, 1) := by decide +kernel
theorem d_Mod_joinWires_73 : decode c_Mod_joinWires 73 = .ok (.getfield 107, 3) := by decide +kernel
theorem d_Mod_joinWires_76 : decode c_Mod_joinWires 76 = .ok (.if_icmp .ge 94, 3) := by decide +kernel
theorem d_Mod_joinWires_79 : decode c_Mod_joinWires 79 = .ok (.iload 5, 2) := by decide +kernel
theorem d_Mod_joinWires_81 : decode c_Mod_joinWires 81 = .ok (.ifCond .eq 89, 3) := by decide +kernel
theorem d_Mod_joinWires_84 : decode c_Mod_joinWires 84 = .ok (.iload 6, 2) := by decide +kernel
theorem d_Mod_joinWires_86 : decode c_Mod_joinWires 86 = .ok (.ifCond .ne 84, 3) := by decide +kernel
theorem d_Mod_joinWires_89 : decode c_Mod_joinWires 89 = .ok (.aload_n 0, 1) := by decide +kernel
theorem d_Mod_joinWires_90 : decode c_Mod_joinWires 90 = .ok (.getfield 27, 3) := by decide +kernel
theorem d_Mod_joinWires_93 : decode c_Mod_joinWires 93 = .ok (.iload 7, 2) := by decide +kernel
theorem d_Mod_joinWires_95 : decode c_Mod_joinWires 95 = .ok (.iaload, 1) := by decide +kernel
theorem d_Mod_joinWires_96 : decode c_Mod_joinWires 96 = .ok (.iload_n 2, 1) := by decide +kernel
theorem d_Mod_joinWires_97 : decode c_Mod_joinWires 97 = .ok (.if_icmp .ne 64, 3) := by decide +kernel
theorem d_Mod_joinWires_100 : decode c_Mod_joinWires 100 = .ok (.aload_n 0, 1) := by decide +kernel
theorem d_Mod_joinWires_101 : decode c_Mod_joinWires 101 = .ok (.iload_n 3, 1) := by decide +kernel
theorem d_Mod_joinWires_102 : decode c_Mod_joinWires 102 = .ok (.aload_n 0, 1) := by decide +kernel
theorem d_Mod_joinWires_103 : decode c_Mod_joinWires 103 = .ok (.getfield 30, 3) := by decide +kernel
theorem d_Mod_joinWires_106 : decode c_Mod_joinWires 106 = .ok (.iconst 2, 1) := by decide +kernel
theorem d_Mod_joinWires_107 : decode c_Mod_joinWires 107 = .ok (.iload 7, 2) := by decide +kernel
theorem d_Mod_joinWires_109 : decode c_Mod_joinWires 109 = .ok (.imul, 1) := by decide +kernel
theorem d_Mod_joinWires_110 : decode c_Mod_joinWires 110 = .ok (.laload, 1) := by decide +kernel
theorem d_Mod_joinWires_111 : decode c_Mod_joinWires 111 = .ok (.aload_n 0, 1) := by decide +kernel
theorem d_Mod_joinWires_112 : decode c_Mod_joinWires 112 = .ok (.getfield 30, 3) := by decide +kernel
theorem d_Mod_joinWires_115 : decode c_Mod_joinWires 115 = .ok (.iconst 2, 1) := by decide +kernel
theorem d_Mod_joinWires_116 : decode c_Mod_joinWires 116 = .ok (.iload 7, 2) := by decide +kernel
theorem d_Mod_joinWires_118 : decode c_Mod_joinWires 118 = .ok (.imul, 1) := by decide +kernel
theorem d_Mod_joinWires_119 : decode c_Mod_joinWires 119 = .ok (.iconst 1, 1) := by decide +kernel
theorem d_Mod_joinWires_120 : decode c_Mod_joinWires 120 = .ok (.iadd, 1) := by decide +kernel
theorem d_Mod_joinWires_121 : decode c_Mod_joinWires 121 = .ok (.laload, 1) := by decide +kernel
theorem d_Mod_joinWires_122 : decode c_Mod_joinWires 122 = .ok (.invokevirtual 110, 3) := by decide +kernel
theorem d_Mod_joinWires_125 : decode c_Mod_joinWires 125 = .ok (.ifCond .eq 36, 3) := by decide +kernel
theorem d_Mod_joinWires_128 : decode c_Mod_joinWires 128 = .ok (.aload_n 0, 1) := by decide +kernel
theorem d_Mod_joinWires_129 : decode c_Mod_joinWires 129 = .ok (.iload 4, 2) := by decide +kernel
theorem d_Mod_joinWires_131 : decode c_Mod_joinWires 131 = .ok (.aload_n 0, 1) := by decide +kernel
theorem d_Mod_joinWires_132 : decode c_Mod_joinWires 132 = .ok (.getfield 30, 3) := by decide +kernel
theorem d_Mod_joinWires_135 : decode c_Mod_joinWires 135 = .ok (.iconst 2, 1) := by decide +kernel
theorem d_Mod_joinWires_136 : decode c_Mod_joinWires 136 = .ok (.iload 7, 2) := by decide +kernel
theorem d_Mod_joinWires_138 : decode c_Mod_joinWires 138 = .ok (.imul, 1) := by decide +kernel
theorem d_Mod_joinWires_139 : decode c_Mod_joinWires 139 = .ok (.laload, 1) := by decide +kernel
theorem d_Mod_joinWires_140 : decode c_Mod_joinWires 140 = .ok (.aload_n 0, 1) := by decide +kernel
theorem d_Mod_joinWires_141 : decode c_Mod_joinWires 141 = .ok (.getfield 30, 3) := by decide +kernel
theorem d_Mod_joinWires_144 : decode c_Mod_joinWires 144 = .ok (.iconst 2, 1) := by decide +kernel
theorem d_Mod_joinWires_145 : decode c_Mod_joinWires 145 = .ok (.iload 7, 2) := by decide +kernel
theorem d_Mod_joinWires_147 : decode c_Mod_joinWires 147 = .ok (.imul, 1) := by decide +kernel
theorem d_Mod_joinWires_148 : decode c_Mod_joinWires 148 = .ok (.iconst 1, 1) := by decide +kernel
theorem d_Mod_joinWires_149 : decode c_Mod_joinWires 149 = .ok (.iadd, 1) := by decide +kernel
theorem d_Mod_joinWires_150 : decode c_Mod_joinWires 150 = .ok (.laload, 1) := by decide +kernel
theorem d_Mod_joinWires_151 : decode c_Mod_joinWires 151 = .ok (.invokevirtual 110, 3) := by decide +kernel
theorem d_Mod_joinWires_154 : decode c_Mod_joinWires 154 = .ok (.ifCond .eq 7, 3) := by decide +kernel
theorem d_Mod_joinWires_157 : decode c_Mod_joinWires 157 = .ok (.iconst 1, 1) := by decide +kernel
theorem d_Mod_joinWires_158 : decode c_Mod_joinWires 158 = .ok (.goto 4, 3) := by decide +kernel
theorem d_Mod_joinWires_161 : decode c_Mod_joinWires 161 = .ok (.iconst 0, 1) := by decide +kernel
theorem d_Mod_joinWires_162 : decode c_Mod_joinWires 162 = .ok (.istore 6, 2) := by decide +kernel
theorem d_Mod_joinWires_164 : decode c_Mod_joinWires 164 = .ok (.iinc 7 1, 3) := by decide +kernel
theorem d_Mod_joinWires_167 : decode c_Mod_joinWires 167 = .ok (.goto (-97), 3) := by decide +kernel
theorem d_Mod_joinWires_170 : decode c_Mod_joinWires 170 = .ok (.iload 6, 2) := by decide +kernel
theorem d_Mod_joinWires_172 : decode c_Mod_joinWires 172 = .ok (.ifCond .eq 20, 3) := by decide +kernel
theorem d_Mod_joinWires_175 : decode c_Mod_joinWires 175 = .ok (.aload_n 0, 1) := by decide +kernel
theorem d_Mod_joinWires_176 : decode c_Mod_joinWires 176 = .ok (.bipush 16, 2) := by decide +kernel
theorem d_Mod_joinWires_178 : decode c_Mod_joinWires 178 = .ok (.iload_n 3, 1) := by decide +kernel
theorem d_Mod_joinWires_179 : decode c_Mod_joinWires 179 = .ok (.imul, 1) := by decide +kernel
theorem d_Mod_joinWires_180 : decode c_Mod_joinWires 180 = .ok (.iload_n 1, 1) := by decide +kernel
theorem d_Mod_joinWires_181 : decode c_Mod_joinWires 181 = .ok (.iadd, 1) := by decide +kernel
theorem d_Mod_joinWires_182 : decode c_Mod_joinWires 182 = .ok (.bipush 16, 2) := by decide +kernel
theorem d_Mod_joinWires_184 : decode c_Mod_joinWires 184 = .ok (.iload 4, 2) := by decide +kernel
theorem d_Mod_joinWires_186 : decode c_Mod_joinWires 186 = .ok (.imul, 1) := by decide +kernel
theorem d_Mod_joinWires_187 : decode c_Mod_joinWires 187 = .ok (.iload_n 1, 1) := by decide +kernel
theorem d_Mod_joinWires_188 : decode c_Mod_joinWires 188 = .ok (.iadd, 1) := by decide +kernel
theorem d_Mod_joinWires_189 : decode c_Mod_joinWires 189 = .ok (.invokevirtual 114, 3) := by decide +kernel
theorem d_Mod_joinWires_192 : decode c_Mod_joinWires 192 = .ok (.iinc 4 1, 3) := by decide +kernel
theorem d_Mod_joinWires_195 : decode c_Mod_joinWires 195 = .ok (.goto (-182), 3) := by decide +kernel
theorem d_Mod_joinWires_198 : decode c_Mod_joinWires 198 = .ok (.iinc 3 1, 3) := by decide +kernel
theorem d_Mod_joinWires_201 : decode c_Mod_joinWires 201 = .ok (.goto (-199), 3) := by decide +kernel
theorem d_Mod_joinWires_204 : decode c_Mod_joinWires 204 = .ok (.return_, 1) := by decide +kernel
abbrev c_Mod_joinPlace : ByteArray := prog_10_method_14_code
def y_Mod_joinPlace : MethodName := ⟨"NetJoinsModel", "joinPlace", "(IIIJJ)V"⟩
theorem ok_Mod_joinPlace : vOK y_Mod_joinPlace c_Mod_joinPlace 9 none 5 := ⟨kw_1287, kw_1286, ks_56, kw_8, by decide +kernel⟩
theorem d_Mod_joinPlace_0 : decode c_Mod_joinPlace 0 = .ok (.iconst 0, 1) := by decide +kernel
theorem d_Mod_joinPlace_1 : decode c_Mod_joinPlace 1 = .ok (.istore 8, 2) := by decide +kernel
theorem d_Mod_joinPlace_3 : decode c_Mod_joinPlace 3 = .ok (.iload 8, 2) := by decide +kernel
theorem d_Mod_joinPlace_5 : decode c_Mod_joinPlace 5 = .ok (.aload_n 0, 1) := by decide +kernel
theorem d_Mod_joinPlace_6 : decode c_Mod_joinPlace 6 = .ok (.getfield 97, 3) := by decide +kernel
theorem d_Mod_joinPlace_9 : decode c_Mod_joinPlace 9 = .ok (.if_icmp .ge 44, 3) := by decide +kernel
theorem d_Mod_joinPlace_12 : decode c_Mod_joinPlace 12 = .ok (.aload_n 0, 1) := by decide +kernel
theorem d_Mod_joinPlace_13 : decode c_Mod_joinPlace 13 = .ok (.iload 8, 2) := by decide +kernel
theorem d_Mod_joinPlace_15 : decode c_Mod_joinPlace 15 = .ok (.iload_n 3, 1) := by decide +kernel
theorem d_Mod_joinPlace_16 : decode c_Mod_joinPlace 16 = .ok (.invokevirtual 100, 3) := by decide +kernel
theorem d_Mod_joinPlace_19 : decode c_Mod_joinPlace 19 = .ok (.ifCond .eq 28, 3) := by decide +kernel
theorem d_Mod_joinPlace_22 : decode c_Mod_joinPlace 22 = .ok (.aload_n 0, 1) := by decide +kernel
theorem d_Mod_joinPlace_23 : decode c_Mod_joinPlace 23 = .ok (.iload 8, 2) := by decide +kernel
theorem d_Mod_joinPlace_25 : decode c_Mod_joinPlace 25 = .ok (.lload 4, 2) := by decide +kernel
theorem d_Mod_joinPlace_27 : decode c_Mod_joinPlace 27 = .ok (.lload 6, 2) := by decide +kernel
theorem d_Mod_joinPlace_29 : decode c_Mod_joinPlace 29 = .ok (.invokevirtual 110, 3) := by decide +kernel
theorem d_Mod_joinPlace_32 : decode c_Mod_joinPlace 32 = .ok (.ifCond .eq 15, 3) := by decide +kernel
theorem d_Mod_joinPlace_35 : decode c_Mod_joinPlace 35 = .ok (.aload_n 0, 1) := by decide +kernel
theorem d_Mod_joinPlace_36 : decode c_Mod_joinPlace 36 = .ok (.iload_n 1, 1) := by decide +kernel
theorem d_Mod_joinPlace_37 : decode c_Mod_joinPlace 37 = .ok (.bipush 16, 2) := by decide +kernel
theorem d_Mod_joinPlace_39 : decode c_Mod_joinPlace 39 = .ok (.iload 8, 2) := by decide +kernel
theorem d_Mod_joinPlace_41 : decode c_Mod_joinPlace 41 = .ok (.imul, 1) := by decide +kernel
theorem d_Mod_joinPlace_42 : decode c_Mod_joinPlace 42 = .ok (.iload_n 2, 1) := by decide +kernel
theorem d_Mod_joinPlace_43 : decode c_Mod_joinPlace 43 = .ok (.iadd, 1) := by decide +kernel
theorem d_Mod_joinPlace_44 : decode c_Mod_joinPlace 44 = .ok (.invokevirtual 114, 3) := by decide +kernel
theorem d_Mod_joinPlace_47 : decode c_Mod_joinPlace 47 = .ok (.iinc 8 1, 3) := by decide +kernel
theorem d_Mod_joinPlace_50 : decode c_Mod_joinPlace 50 = .ok (.goto (-47), 3) := by decide +kernel
theorem d_Mod_joinPlace_53 : decode c_Mod_joinPlace 53 = .ok (.iconst 0, 1) := by decide +kernel
theorem d_Mod_joinPlace_54 : decode c_Mod_joinPlace 54 = .ok (.istore 8, 2) := by decide +kernel
theorem d_Mod_joinPlace_56 : decode c_Mod_joinPlace 56 = .ok (.iload 8, 2) := by decide +kernel
theorem d_Mod_joinPlace_58 : decode c_Mod_joinPlace 58 = .ok (.aload_n 0, 1) := by decide +kernel
theorem d_Mod_joinPlace_59 : decode c_Mod_joinPlace 59 = .ok (.getfield 118, 3) := by decide +kernel
theorem d_Mod_joinPlace_62 : decode c_Mod_joinPlace 62 = .ok (.if_icmp .ge 68, 3) := by decide +kernel
theorem d_Mod_joinPlace_65 : decode c_Mod_joinPlace 65 = .ok (.aload_n 0, 1) := by decide +kernel
theorem d_Mod_joinPlace_66 : decode c_Mod_joinPlace 66 = .ok (.getfield 33, 3) := by decide +kernel
theorem d_Mod_joinPlace_69 : decode c_Mod_joinPlace 69 = .ok (.iload 8, 2) := by decide +kernel
theorem d_Mod_joinPlace_71 : decode c_Mod_joinPlace 71 = .ok (.iaload, 1) := by decide +kernel
theorem d_Mod_joinPlace_72 : decode c_Mod_joinPlace 72 = .ok (.iload_n 3, 1) := by decide +kernel
theorem d_Mod_joinPlace_73 : decode c_Mod_joinPlace 73 = .ok (.if_icmp .ne 51, 3) := by decide +kernel
theorem d_Mod_joinPlace_76 : decode c_Mod_joinPlace 76 = .ok (.aload_n 0, 1) := by decide +kernel
theorem d_Mod_joinPlace_77 : decode c_Mod_joinPlace 77 = .ok (.getfield 39, 3) := by decide +kernel
theorem d_Mod_joinPlace_80 : decode c_Mod_joinPlace 80 = .ok (.iconst 2, 1) := by decide +kernel
theorem d_Mod_joinPlace_81 : decode c_Mod_joinPlace 81 = .ok (.iload 8, 2) := by decide +kernel
theorem d_Mod_joinPlace_83 : decode c_Mod_joinPlace 83 = .ok (.imul, 1) := by decide +kernel
theorem d_Mod_joinPlace_84 : decode c_Mod_joinPlace 84 = .ok (.laload, 1) := by decide +kernel
theorem d_Mod_joinPlace_85 : decode c_Mod_joinPlace 85 = .ok (.lload 4, 2) := by decide +kernel
theorem d_Mod_joinPlace_87 : decode c_Mod_joinPlace 87 = .ok (.lcmp, 1) := by decide +kernel
theorem d_Mod_joinPlace_88 : decode c_Mod_joinPlace 88 = .ok (.ifCond .ne 36, 3) := by decide +kernel
theorem d_Mod_joinPlace_91 : decode c_Mod_joinPlace 91 = .ok (.aload_n 0, 1) := by decide +kernel
theorem d_Mod_joinPlace_92 : decode c_Mod_joinPlace 92 = .ok (.getfield 39, 3) := by decide +kernel
theorem d_Mod_joinPlace_95 : decode c_Mod_joinPlace 95 = .ok (.iconst 2, 1) := by decide +kernel
theorem d_Mod_joinPlace_96 : decode c_Mod_joinPlace 96 = .ok (.iload 8, 2) := by decide +kernel
theorem d_Mod_joinPlace_98 : decode c_Mod_joinPlace 98 = .ok (.imul, 1) := by decide +kernel
theorem d_Mod_joinPlace_99 : decode c_Mod_joinPlace 99 = .ok (.iconst 1, 1) := by decide +kernel
theorem d_Mod_joinPlace_100 : decode c_Mod_joinPlace 100 = .ok (.iadd, 1) := by decide +kernel
theorem d_Mod_joinPlace_101 : decode c_Mod_joinPlace 101 = .ok (.laload, 1) := by decide +kernel
theorem d_Mod_joinPlace_102 : decode c_Mod_joinPlace 102 = .ok (.lload 6, 2) := by decide +kernel
theorem d_Mod_joinPlace_104 : decode c_Mod_joinPlace 104 = .ok (.lcmp, 1) := by decide +kernel
theorem d_Mod_joinPlace_105 : decode c_Mod_joinPlace 105 = .ok (.ifCond .ne 19, 3) := by decide +kernel
theorem d_Mod_joinPlace_108 : decode c_Mod_joinPlace 108 = .ok (.aload_n 0, 1) := by decide +kernel
theorem d_Mod_joinPlace_109 : decode c_Mod_joinPlace 109 = .ok (.iload_n 1, 1) := by decide +kernel
theorem d_Mod_joinPlace_110 : decode c_Mod_joinPlace 110 = .ok (.sipush 1600, 3) := by decide +kernel
theorem d_Mod_joinPlace_113 : decode c_Mod_joinPlace 113 = .ok (.bipush 16, 2) := by decide +kernel
theorem d_Mod_joinPlace_115 : decode c_Mod_joinPlace 115 = .ok (.iload 8, 2) := by decide +kernel
theorem d_Mod_joinPlace_117 : decode c_Mod_joinPlace 117 = .ok (.imul, 1) := by decide +kernel
theorem d_Mod_joinPlace_118 : decode c_Mod_joinPlace 118 = .ok (.iadd, 1) := by decide +kernel
theorem d_Mod_joinPlace_119 : decode c_Mod_joinPlace 119 = .ok (.iload_n 2, 1) := by decide +kernel
theorem d_Mod_joinPlace_120 : decode c_Mod_joinPlace 120 = .ok (.iadd, 1) := by decide +kernel
theorem d_Mod_joinPlace_121 : decode c_Mod_joinPlace 121 = .ok (.invokevirtual 114, 3) := by decide +kernel
theorem d_Mod_joinPlace_124 : decode c_Mod_joinPlace 124 = .ok (.iinc 8 1, 3) := by decide +kernel
theorem d_Mod_joinPlace_127 : decode c_Mod_joinPlace 127 = .ok (.goto (-71), 3) := by decide +kernel
theorem d_Mod_joinPlace_130 : decode c_Mod_joinPlace 130 = .ok (.iconst 0, 1) := by decide +kernel
theorem d_Mod_joinPlace_131 : decode c_Mod_joinPlace 131 = .ok (.istore 8, 2) := by decide +kernel
theorem d_Mod_joinPlace_133 : decode c_Mod_joinPlace 133 = .ok (.iload 8, 2) := by decide +kernel
theorem d_Mod_joinPlace_135 : decode c_Mod_joinPlace 135 = .ok (.aload_n 0, 1) := by decide +kernel
theorem d_Mod_joinPlace_136 : decode c_Mod_joinPlace 136 = .ok (.getfield 121, 3) := by decide +kernel
theorem d_Mod_joinPlace_139 : decode c_Mod_joinPlace 139 = .ok (.if_icmp .ge 68, 3) := by decide +kernel
theorem d_Mod_joinPlace_142 : decode c_Mod_joinPlace 142 = .ok (.aload_n 0, 1) := by decide +kernel
theorem d_Mod_joinPlace_143 : decode c_Mod_joinPlace 143 = .ok (.getfield 42, 3) := by decide +kernel
theorem d_Mod_joinPlace_146 : decode c_Mod_joinPlace 146 = .ok (.iload 8, 2) := by decide +kernel
theorem d_Mod_joinPlace_148 : decode c_Mod_joinPlace 148 = .ok (.iaload, 1) := by decide +kernel
theorem d_Mod_joinPlace_149 : decode c_Mod_joinPlace 149 = .ok (.iload_n 3, 1) := by decide +kernel
theorem d_Mod_joinPlace_150 : decode c_Mod_joinPlace 150 = .ok (.if_icmp .ne 51, 3) := by decide +kernel
theorem d_Mod_joinPlace_153 : decode c_Mod_joinPlace 153 = .ok (.aload_n 0, 1) := by decide +kernel
theorem d_Mod_joinPlace_154 : decode c_Mod_joinPlace 154 = .ok (.getfield 48, 3) := by decide +kernel
theorem d_Mod_joinPlace_157 : decode c_Mod_joinPlace 157 = .ok (.iconst 2, 1) := by decide +kernel
theorem d_Mod_joinPlace_158 : decode c_Mod_joinPlace 158 = .ok (.iload 8, 2) := by decide +kernel
theorem d_Mod_joinPlace_160 : decode c_Mod_joinPlace 160 = .ok (.imul, 1) := by decide +kernel
theorem d_Mod_joinPlace_161 : decode c_Mod_joinPlace 161 = .ok (.laload, 1) := by decide +kernel
theorem d_Mod_joinPlace_162 : decode c_Mod_joinPlace 162 = .ok (.lload 4, 2) := by decide +kernel
theorem d_Mod_joinPlace_164 : decode c_Mod_joinPlace 164 = .ok (.lcmp, 1) := by decide +kernel
theorem d_Mod_joinPlace_165 : decode c_Mod_joinPlace 165 = .ok (.ifCond .ne 36, 3) := by decide +kernel
theorem d_Mod_joinPlace_168 : decode c_Mod_joinPlace 168 = .ok (.aload_n 0, 1) := by decide +kernel
theorem d_Mod_joinPlace_169 : decode c_Mod_joinPlace 169 = .ok (.getfield 48, 3) := by decide +kernel
theorem d_Mod_joinPlace_172 : decode c_Mod_joinPlace 172 = .ok (.iconst 2, 1) := by decide +kernel
theorem d_Mod_joinPlace_173 : decode c_Mod_joinPlace 173 = .ok (.iload 8, 2) := by decide +kernel
theorem d_Mod_joinPlace_175 : decode c_Mod_joinPlace 175 = .ok (.imul, 1) := by decide +kernel
theorem d_Mod_joinPlace_176 : decode c_Mod_joinPlace 176 = .ok (.iconst 1, 1) := by decide +kernel
theorem d_Mod_joinPlace_177 : decode c_Mod_joinPlace 177 = .ok (.iadd, 1) := by decide +kernel
theorem d_Mod_joinPlace_178 : decode c_Mod_joinPlace 178 = .ok (.laload, 1) := by decide +kernel
theorem d_Mod_joinPlace_179 : decode c_Mod_joinPlace 179 = .ok (.lload 6, 2) := by decide +kernel
theorem d_Mod_joinPlace_181 : decode c_Mod_joinPlace 181 = .ok (.lcmp, 1) := by decide +kernel
theorem d_Mod_joinPlace_182 : decode c_Mod_joinPlace 182 = .ok (.ifCond .ne 19, 3) := by decide +kernel
theorem d_Mod_joinPlace_185 : decode c_Mod_joinPlace 185 = .ok (.aload_n 0, 1) := by decide +kernel
theorem d_Mod_joinPlace_186 : decode c_Mod_joinPlace 186 = .ok (.iload_n 1, 1) := by decide +kernel
theorem d_Mod_joinPlace_187 : decode c_Mod_joinPlace 187 = .ok (.sipush 2560, 3) := by decide +kernel
theorem d_Mod_joinPlace_190 : decode c_Mod_joinPlace 190 = .ok (.bipush 16, 2) := by decide +kernel
theorem d_Mod_joinPlace_192 : decode c_Mod_joinPlace 192 = .ok (.iload 8, 2) := by decide +kernel
theorem d_Mod_joinPlace_194 : decode c_Mod_joinPlace 194 = .ok (.imul, 1) := by decide +kernel
theorem d_Mod_joinPlace_195 : decode c_Mod_joinPlace 195 = .ok (.iadd, 1) := by decide +kernel
theorem d_Mod_joinPlace_196 : decode c_Mod_joinPlace 196 = .ok (.iload_n 2, 1) := by decide +kernel
theorem d_Mod_joinPlace_197 : decode c_Mod_joinPlace 197 = .ok (.iadd, 1) := by decide +kernel
theorem d_Mod_joinPlace_198 : decode c_Mod_joinPlace 198 = .ok (.invokevirtual 114, 3) := by decide +kernel
theorem d_Mod_joinPlace_201 : decode c_Mod_joinPlace 201 = .ok (.iinc 8 1, 3) := by decide +kernel
theorem d_Mod_joinPlace_204 : decode c_Mod_joinPlace 204 = .ok (.goto (-71), 3) := by decide +kernel
theorem d_Mod_joinPlace_207 : decode c_Mod_joinPlace 207 = .ok (.return_, 1) := by decide +kernel
abbrev c_Mod_nameNode : ByteArray := prog_10_method_9_code
def y_Mod_nameNode : MethodName := ⟨"NetJoinsModel", "nameNode", "(II)I"⟩
theorem ok_Mod_nameNode : vOK y_Mod_nameNode c_Mod_nameNode 3 (some .int) 2 := ⟨kw_1291, kw_1290, ks_57, kw_8, by decide +kernel⟩
theorem d_Mod_nameNode_0 : decode c_Mod_nameNode 0 = .ok (.sipush 3520, 3) := by decide +kernel
theorem d_Mod_nameNode_3 : decode c_Mod_nameNode 3 = .ok (.iload_n 2, 1) := by decide +kernel
theorem d_Mod_nameNode_4 : decode c_Mod_nameNode 4 = .ok (.sipush 900, 3) := by decide +kernel
theorem d_Mod_nameNode_7 : decode c_Mod_nameNode 7 = .ok (.if_icmp .lt 7, 3) := by decide +kernel
theorem d_Mod_nameNode_10 : decode c_Mod_nameNode 10 = .ok (.iconst 0, 1) := by decide +kernel
theorem d_Mod_nameNode_11 : decode c_Mod_nameNode 11 = .ok (.goto 8, 3) := by decide +kernel
theorem d_Mod_nameNode_14 : decode c_Mod_nameNode 14 = .ok (.sipush 1000, 3) := by decide +kernel
theorem d_Mod_nameNode_17 : decode c_Mod_nameNode 17 = .ok (.iload_n 1, 1) := by decide +kernel
theorem d_Mod_nameNode_18 : decode c_Mod_nameNode 18 = .ok (.imul, 1) := by decide +kernel
theorem d_Mod_nameNode_19 : decode c_Mod_nameNode 19 = .ok (.iadd, 1) := by decide +kernel
theorem d_Mod_nameNode_20 : decode c_Mod_nameNode 20 = .ok (.iload_n 2, 1) := by decide +kernel
theorem d_Mod_nameNode_21 : decode c_Mod_nameNode 21 = .ok (.iadd, 1) := by decide +kernel
theorem d_Mod_nameNode_22 : decode c_Mod_nameNode 22 = .ok (.ireturn, 1) := by decide +kernel
abbrev c_Mod_joinSheet : ByteArray := prog_10_method_15_code
def y_Mod_joinSheet : MethodName := ⟨"NetJoinsModel", "joinSheet", "(I)V"⟩
theorem ok_Mod_joinSheet : vOK y_Mod_joinSheet c_Mod_joinSheet 5 none 1 := ⟨kw_1259, kw_1258, ks_49, kw_8, by decide +kernel⟩
theorem d_Mod_joinSheet_0 : decode c_Mod_joinSheet 0 = .ok (.aload_n 0, 1) := by decide +kernel
theorem d_Mod_joinSheet_1 : decode c_Mod_joinSheet 1 = .ok (.getfield 13, 3) := by decide +kernel
theorem d_Mod_joinSheet_4 : decode c_Mod_joinSheet 4 = .ok (.iload_n 1, 1) := by decide +kernel
theorem d_Mod_joinSheet_5 : decode c_Mod_joinSheet 5 = .ok (.iaload, 1) := by decide +kernel
theorem d_Mod_joinSheet_6 : decode c_Mod_joinSheet 6 = .ok (.istore_n 2, 1) := by decide +kernel
theorem d_Mod_joinSheet_7 : decode c_Mod_joinSheet 7 = .ok (.aload_n 0, 1) := by decide +kernel
theorem d_Mod_joinSheet_8 : decode c_Mod_joinSheet 8 = .ok (.iload_n 1, 1) := by decide +kernel
theorem d_Mod_joinSheet_9 : decode c_Mod_joinSheet 9 = .ok (.iload_n 2, 1) := by decide +kernel
theorem d_Mod_joinSheet_10 : decode c_Mod_joinSheet 10 = .ok (.invokevirtual 124, 3) := by decide +kernel
theorem d_Mod_joinSheet_13 : decode c_Mod_joinSheet 13 = .ok (.iconst 0, 1) := by decide +kernel
theorem d_Mod_joinSheet_14 : decode c_Mod_joinSheet 14 = .ok (.istore_n 3, 1) := by decide +kernel
theorem d_Mod_joinSheet_15 : decode c_Mod_joinSheet 15 = .ok (.iload_n 3, 1) := by decide +kernel
theorem d_Mod_joinSheet_16 : decode c_Mod_joinSheet 16 = .ok (.aload_n 0, 1) := by decide +kernel
theorem d_Mod_joinSheet_17 : decode c_Mod_joinSheet 17 = .ok (.getfield 118, 3) := by decide +kernel
theorem d_Mod_joinSheet_20 : decode c_Mod_joinSheet 20 = .ok (.if_icmp .ge 77, 3) := by decide +kernel
theorem d_Mod_joinSheet_23 : decode c_Mod_joinSheet 23 = .ok (.aload_n 0, 1) := by decide +kernel
theorem d_Mod_joinSheet_24 : decode c_Mod_joinSheet 24 = .ok (.getfield 33, 3) := by decide +kernel
theorem d_Mod_joinSheet_27 : decode c_Mod_joinSheet 27 = .ok (.iload_n 3, 1) := by decide +kernel
theorem d_Mod_joinSheet_28 : decode c_Mod_joinSheet 28 = .ok (.iaload, 1) := by decide +kernel
theorem d_Mod_joinSheet_29 : decode c_Mod_joinSheet 29 = .ok (.iload_n 2, 1) := by decide +kernel
theorem d_Mod_joinSheet_30 : decode c_Mod_joinSheet 30 = .ok (.if_icmp .eq 6, 3) := by decide +kernel
theorem d_Mod_joinSheet_33 : decode c_Mod_joinSheet 33 = .ok (.goto 58, 3) := by decide +kernel
theorem d_Mod_joinSheet_36 : decode c_Mod_joinSheet 36 = .ok (.sipush 1600, 3) := by decide +kernel
theorem d_Mod_joinSheet_39 : decode c_Mod_joinSheet 39 = .ok (.bipush 16, 2) := by decide +kernel
theorem d_Mod_joinSheet_41 : decode c_Mod_joinSheet 41 = .ok (.iload_n 3, 1) := by decide +kernel
theorem d_Mod_joinSheet_42 : decode c_Mod_joinSheet 42 = .ok (.imul, 1) := by decide +kernel
theorem d_Mod_joinSheet_43 : decode c_Mod_joinSheet 43 = .ok (.iadd, 1) := by decide +kernel
theorem d_Mod_joinSheet_44 : decode c_Mod_joinSheet 44 = .ok (.iload_n 1, 1) := by decide +kernel
theorem d_Mod_joinSheet_45 : decode c_Mod_joinSheet 45 = .ok (.iadd, 1) := by decide +kernel
theorem d_Mod_joinSheet_46 : decode c_Mod_joinSheet 46 = .ok (.istore 4, 2) := by decide +kernel
theorem d_Mod_joinSheet_48 : decode c_Mod_joinSheet 48 = .ok (.aload_n 0, 1) := by decide +kernel
theorem d_Mod_joinSheet_49 : decode c_Mod_joinSheet 49 = .ok (.iload 4, 2) := by decide +kernel
theorem d_Mod_joinSheet_51 : decode c_Mod_joinSheet 51 = .ok (.iload_n 1, 1) := by decide +kernel
theorem d_Mod_joinSheet_52 : decode c_Mod_joinSheet 52 = .ok (.iload_n 2, 1) := by decide +kernel
theorem d_Mod_joinSheet_53 : decode c_Mod_joinSheet 53 = .ok (.aload_n 0, 1) := by decide +kernel
theorem d_Mod_joinSheet_54 : decode c_Mod_joinSheet 54 = .ok (.getfield 39, 3) := by decide +kernel
theorem d_Mod_joinSheet_57 : decode c_Mod_joinSheet 57 = .ok (.iconst 2, 1) := by decide +kernel
theorem d_Mod_joinSheet_58 : decode c_Mod_joinSheet 58 = .ok (.iload_n 3, 1) := by decide +kernel
theorem d_Mod_joinSheet_59 : decode c_Mod_joinSheet 59 = .ok (.imul, 1) := by decide +kernel
theorem d_Mod_joinSheet_60 : decode c_Mod_joinSheet 60 = .ok (.laload, 1) := by decide +kernel
theorem d_Mod_joinSheet_61 : decode c_Mod_joinSheet 61 = .ok (.aload_n 0, 1) := by decide +kernel
theorem d_Mod_joinSheet_62 : decode c_Mod_joinSheet 62 = .ok (.getfield 39, 3) := by decide +kernel
theorem d_Mod_joinSheet_65 : decode c_Mod_joinSheet 65 = .ok (.iconst 2, 1) := by decide +kernel
theorem d_Mod_joinSheet_66 : decode c_Mod_joinSheet 66 = .ok (.iload_n 3, 1) := by decide +kernel
theorem d_Mod_joinSheet_67 : decode c_Mod_joinSheet 67 = .ok (.imul, 1) := by decide +kernel
theorem d_Mod_joinSheet_68 : decode c_Mod_joinSheet 68 = .ok (.iconst 1, 1) := by decide +kernel
theorem d_Mod_joinSheet_69 : decode c_Mod_joinSheet 69 = .ok (.iadd, 1) := by decide +kernel
theorem d_Mod_joinSheet_70 : decode c_Mod_joinSheet 70 = .ok (.laload, 1) := by decide +kernel
theorem d_Mod_joinSheet_71 : decode c_Mod_joinSheet 71 = .ok (.invokevirtual 127, 3) := by decide +kernel
theorem d_Mod_joinSheet_74 : decode c_Mod_joinSheet 74 = .ok (.aload_n 0, 1) := by decide +kernel
theorem d_Mod_joinSheet_75 : decode c_Mod_joinSheet 75 = .ok (.iload 4, 2) := by decide +kernel
theorem d_Mod_joinSheet_77 : decode c_Mod_joinSheet 77 = .ok (.aload_n 0, 1) := by decide +kernel
theorem d_Mod_joinSheet_78 : decode c_Mod_joinSheet 78 = .ok (.iload_n 1, 1) := by decide +kernel
theorem d_Mod_joinSheet_79 : decode c_Mod_joinSheet 79 = .ok (.aload_n 0, 1) := by decide +kernel
theorem d_Mod_joinSheet_80 : decode c_Mod_joinSheet 80 = .ok (.getfield 36, 3) := by decide +kernel
theorem d_Mod_joinSheet_83 : decode c_Mod_joinSheet 83 = .ok (.iload_n 3, 1) := by decide +kernel
theorem d_Mod_joinSheet_84 : decode c_Mod_joinSheet 84 = .ok (.iaload, 1) := by decide +kernel
theorem d_Mod_joinSheet_85 : decode c_Mod_joinSheet 85 = .ok (.invokevirtual 131, 3) := by decide +kernel
theorem d_Mod_joinSheet_88 : decode c_Mod_joinSheet 88 = .ok (.invokevirtual 114, 3) := by decide +kernel
theorem d_Mod_joinSheet_91 : decode c_Mod_joinSheet 91 = .ok (.iinc 3 1, 3) := by decide +kernel
theorem d_Mod_joinSheet_94 : decode c_Mod_joinSheet 94 = .ok (.goto (-79), 3) := by decide +kernel
theorem d_Mod_joinSheet_97 : decode c_Mod_joinSheet 97 = .ok (.iconst 0, 1) := by decide +kernel
theorem d_Mod_joinSheet_98 : decode c_Mod_joinSheet 98 = .ok (.istore_n 3, 1) := by decide +kernel
theorem d_Mod_joinSheet_99 : decode c_Mod_joinSheet 99 = .ok (.iload_n 3, 1) := by decide +kernel
theorem d_Mod_joinSheet_100 : decode c_Mod_joinSheet 100 = .ok (.aload_n 0, 1) := by decide +kernel
theorem d_Mod_joinSheet_101 : decode c_Mod_joinSheet 101 = .ok (.getfield 121, 3) := by decide +kernel
theorem d_Mod_joinSheet_104 : decode c_Mod_joinSheet 104 = .ok (.if_icmp .ge 53, 3) := by decide +kernel
theorem d_Mod_joinSheet_107 : decode c_Mod_joinSheet 107 = .ok (.aload_n 0, 1) := by decide +kernel
theorem d_Mod_joinSheet_108 : decode c_Mod_joinSheet 108 = .ok (.getfield 42, 3) := by decide +kernel
theorem d_Mod_joinSheet_111 : decode c_Mod_joinSheet 111 = .ok (.iload_n 3, 1) := by decide +kernel
theorem d_Mod_joinSheet_112 : decode c_Mod_joinSheet 112 = .ok (.iaload, 1) := by decide +kernel
theorem d_Mod_joinSheet_113 : decode c_Mod_joinSheet 113 = .ok (.iload_n 2, 1) := by decide +kernel
theorem d_Mod_joinSheet_114 : decode c_Mod_joinSheet 114 = .ok (.if_icmp .ne 37, 3) := by decide +kernel
theorem d_Mod_joinSheet_117 : decode c_Mod_joinSheet 117 = .ok (.aload_n 0, 1) := by decide +kernel
theorem d_Mod_joinSheet_118 : decode c_Mod_joinSheet 118 = .ok (.sipush 2560, 3) := by decide +kernel
theorem d_Mod_joinSheet_121 : decode c_Mod_joinSheet 121 = .ok (.bipush 16, 2) := by decide +kernel
theorem d_Mod_joinSheet_123 : decode c_Mod_joinSheet 123 = .ok (.iload_n 3, 1) := by decide +kernel
theorem d_Mod_joinSheet_124 : decode c_Mod_joinSheet 124 = .ok (.imul, 1) := by decide +kernel
theorem d_Mod_joinSheet_125 : decode c_Mod_joinSheet 125 = .ok (.iadd, 1) := by decide +kernel
theorem d_Mod_joinSheet_126 : decode c_Mod_joinSheet 126 = .ok (.iload_n 1, 1) := by decide +kernel
theorem d_Mod_joinSheet_127 : decode c_Mod_joinSheet 127 = .ok (.iadd, 1) := by decide +kernel
theorem d_Mod_joinSheet_128 : decode c_Mod_joinSheet 128 = .ok (.iload_n 1, 1) := by decide +kernel
theorem d_Mod_joinSheet_129 : decode c_Mod_joinSheet 129 = .ok (.iload_n 2, 1) := by decide +kernel
theorem d_Mod_joinSheet_130 : decode c_Mod_joinSheet 130 = .ok (.aload_n 0, 1) := by decide +kernel
theorem d_Mod_joinSheet_131 : decode c_Mod_joinSheet 131 = .ok (.getfield 48, 3) := by decide +kernel
theorem d_Mod_joinSheet_134 : decode c_Mod_joinSheet 134 = .ok (.iconst 2, 1) := by decide +kernel
theorem d_Mod_joinSheet_135 : decode c_Mod_joinSheet 135 = .ok (.iload_n 3, 1) := by decide +kernel
theorem d_Mod_joinSheet_136 : decode c_Mod_joinSheet 136 = .ok (.imul, 1) := by decide +kernel
theorem d_Mod_joinSheet_137 : decode c_Mod_joinSheet 137 = .ok (.laload, 1) := by decide +kernel
theorem d_Mod_joinSheet_138 : decode c_Mod_joinSheet 138 = .ok (.aload_n 0, 1) := by decide +kernel
theorem d_Mod_joinSheet_139 : decode c_Mod_joinSheet 139 = .ok (.getfield 48, 3) := by decide +kernel
theorem d_Mod_joinSheet_142 : decode c_Mod_joinSheet 142 = .ok (.iconst 2, 1) := by decide +kernel
theorem d_Mod_joinSheet_143 : decode c_Mod_joinSheet 143 = .ok (.iload_n 3, 1) := by decide +kernel
theorem d_Mod_joinSheet_144 : decode c_Mod_joinSheet 144 = .ok (.imul, 1) := by decide +kernel
theorem d_Mod_joinSheet_145 : decode c_Mod_joinSheet 145 = .ok (.iconst 1, 1) := by decide +kernel
theorem d_Mod_joinSheet_146 : decode c_Mod_joinSheet 146 = .ok (.iadd, 1) := by decide +kernel
theorem d_Mod_joinSheet_147 : decode c_Mod_joinSheet 147 = .ok (.laload, 1) := by decide +kernel
theorem d_Mod_joinSheet_148 : decode c_Mod_joinSheet 148 = .ok (.invokevirtual 127, 3) := by decide +kernel
theorem d_Mod_joinSheet_151 : decode c_Mod_joinSheet 151 = .ok (.iinc 3 1, 3) := by decide +kernel
theorem d_Mod_joinSheet_154 : decode c_Mod_joinSheet 154 = .ok (.goto (-55), 3) := by decide +kernel
theorem d_Mod_joinSheet_157 : decode c_Mod_joinSheet 157 = .ok (.return_, 1) := by decide +kernel
abbrev c_Mod_members : ByteArray := prog_10_method_16_code
def y_Mod_members : MethodName := ⟨"NetJoinsModel", "members", "(I)I"⟩
theorem ok_Mod_members : vOK y_Mod_members c_Mod_members 3 (some .int) 1 := ⟨kw_1299, kw_1298, ks_59, kw_8, by decide +kernel⟩
theorem d_Mod_members_0 : decode c_Mod_members 0 = .ok (.aload_n 0, 1) := by decide +kernel
theorem d_Mod_members_1 : decode c_Mod_members 1 = .ok (.getfield 57, 3) := by decide +kernel
theorem d_Mod_members_4 : decode c_Mod_members 4 = .ok (.iconst 4, 1) := by decide +kernel
theorem d_Mod_members_5 : decode c_Mod_members 5 = .ok (.iload_n 1, 1) := by decide +kernel
theorem d_Mod_members_6 : decode c_Mod_members 6 = .ok (.imul, 1) := by decide +kernel
theorem d_Mod_members_7 : decode c_Mod_members 7 = .ok (.iconst 3, 1) := by decide +kernel
theorem d_Mod_members_8 : decode c_Mod_members 8 = .ok (.iadd, 1) := by decide +kernel
theorem d_Mod_members_9 : decode c_Mod_members 9 = .ok (.iaload, 1) := by decide +kernel
theorem d_Mod_members_10 : decode c_Mod_members 10 = .ok (.aload_n 0, 1) := by decide +kernel
theorem d_Mod_members_11 : decode c_Mod_members 11 = .ok (.getfield 57, 3) := by decide +kernel
theorem d_Mod_members_14 : decode c_Mod_members 14 = .ok (.iconst 4, 1) := by decide +kernel
theorem d_Mod_members_15 : decode c_Mod_members 15 = .ok (.iload_n 1, 1) := by decide +kernel
theorem d_Mod_members_16 : decode c_Mod_members 16 = .ok (.imul, 1) := by decide +kernel
theorem d_Mod_members_17 : decode c_Mod_members 17 = .ok (.iconst 2, 1) := by decide +kernel
theorem d_Mod_members_18 : decode c_Mod_members 18 = .ok (.iadd, 1) := by decide +kernel
theorem d_Mod_members_19 : decode c_Mod_members 19 = .ok (.iaload, 1) := by decide +kernel
theorem d_Mod_members_20 : decode c_Mod_members 20 = .ok (.isub, 1) := by decide +kernel
theorem d_Mod_members_21 : decode c_Mod_members 21 = .ok (.istore_n 2, 1) := by decide +kernel
theorem d_Mod_members_22 : decode c_Mod_members 22 = .ok (.iconst 1, 1) := by decide +kernel
theorem d_Mod_members_23 : decode c_Mod_members 23 = .ok (.iload_n 2, 1) := by decide +kernel
theorem d_Mod_members_24 : decode c_Mod_members 24 = .ok (.ifCond .ge 9, 3) := by decide +kernel
theorem d_Mod_members_27 : decode c_Mod_members 27 = .ok (.iconst 0, 1) := by decide +kernel
theorem d_Mod_members_28 : decode c_Mod_members 28 = .ok (.iload_n 2, 1) := by decide +kernel
theorem d_Mod_members_29 : decode c_Mod_members 29 = .ok (.isub, 1) := by decide +kernel
theorem d_Mod_members_30 : decode c_Mod_members 30 = .ok (.goto 4, 3) := by decide +kernel
theorem d_Mod_members_33 : decode c_Mod_members 33 = .ok (.iload_n 2, 1) := by decide +kernel
theorem d_Mod_members_34 : decode c_Mod_members 34 = .ok (.iadd, 1) := by decide +kernel
theorem d_Mod_members_35 : decode c_Mod_members 35 = .ok (.ireturn, 1) := by decide +kernel
abbrev c_Mod_member : ByteArray := prog_10_method_17_code
def y_Mod_member : MethodName := ⟨"NetJoinsModel", "member", "(II)I"⟩
theorem ok_Mod_member : vOK y_Mod_member c_Mod_member 3 (some .int) 2 := ⟨kw_1303, kw_1302, ks_60, kw_8, by decide +kernel⟩
theorem d_Mod_member_0 : decode c_Mod_member 0 = .ok (.aload_n 0, 1) := by decide +kernel
theorem d_Mod_member_1 : decode c_Mod_member 1 = .ok (.getfield 57, 3) := by decide +kernel
theorem d_Mod_member_4 : decode c_Mod_member 4 = .ok (.iconst 4, 1) := by decide +kernel
theorem d_Mod_member_5 : decode c_Mod_member 5 = .ok (.iload_n 1, 1) := by decide +kernel
theorem d_Mod_member_6 : decode c_Mod_member 6 = .ok (.imul, 1) := by decide +kernel
theorem d_Mod_member_7 : decode c_Mod_member 7 = .ok (.iconst 3, 1) := by decide +kernel
theorem d_Mod_member_8 : decode c_Mod_member 8 = .ok (.iadd, 1) := by decide +kernel
theorem d_Mod_member_9 : decode c_Mod_member 9 = .ok (.iaload, 1) := by decide +kernel
theorem d_Mod_member_10 : decode c_Mod_member 10 = .ok (.aload_n 0, 1) := by decide +kernel
theorem d_Mod_member_11 : decode c_Mod_member 11 = .ok (.getfield 57, 3) := by decide +kernel
theorem d_Mod_member_14 : decode c_Mod_member 14 = .ok (.iconst 4, 1) := by decide +kernel
theorem d_Mod_member_15 : decode c_Mod_member 15 = .ok (.iload_n 1, 1) := by decide +kernel
theorem d_Mod_member_16 : decode c_Mod_member 16 = .ok (.imul, 1) := by decide +kernel
theorem d_Mod_member_17 : decode c_Mod_member 17 = .ok (.iconst 2, 1) := by decide +kernel
theorem d_Mod_member_18 : decode c_Mod_member 18 = .ok (.iadd, 1) := by decide +kernel
theorem d_Mod_member_19 : decode c_Mod_member 19 = .ok (.iaload, 1) := by decide +kernel
theorem d_Mod_member_20 : decode c_Mod_member 20 = .ok (.if_icmp .ge 18, 3) := by decide +kernel
theorem d_Mod_member_23 : decode c_Mod_member 23 = .ok (.aload_n 0, 1) := by decide +kernel
theorem d_Mod_member_24 : decode c_Mod_member 24 = .ok (.getfield 57, 3) := by decide +kernel
theorem d_Mod_member_27 : decode c_Mod_member 27 = .ok (.iconst 4, 1) := by decide +kernel
theorem d_Mod_member_28 : decode c_Mod_member 28 = .ok (.iload_n 1, 1) := by decide +kernel
theorem d_Mod_member_29 : decode c_Mod_member 29 = .ok (.imul, 1) := by decide +kernel
theorem d_Mod_member_30 : decode c_Mod_member 30 = .ok (.iconst 2, 1) := by decide +kernel
theorem d_Mod_member_31 : decode c_Mod_member 31 = .ok (.iadd, 1) := by decide +kernel
theorem d_Mod_member_32 : decode c_Mod_member 32 = .ok (.iaload, 1) := by decide +kernel
theorem d_Mod_member_33 : decode c_Mod_member 33 = .ok (.iload_n 2, 1) := by decide +kernel
theorem d_Mod_member_34 : decode c_Mod_member 34 = .ok (.isub, 1) := by decide +kernel
theorem d_Mod_member_35 : decode c_Mod_member 35 = .ok (.goto 15, 3) := by decide +kernel
theorem d_Mod_member_38 : decode c_Mod_member 38 = .ok (.aload_n 0, 1) := by decide +kernel
theorem d_Mod_member_39 : decode c_Mod_member 39 = .ok (.getfield 57, 3) := by decide +kernel
theorem d_Mod_member_42 : decode c_Mod_member 42 = .ok (.iconst 4, 1) := by decide +kernel
theorem d_Mod_member_43 : decode c_Mod_member 43 = .ok (.iload_n 1, 1) := by decide +kernel
theorem d_Mod_member_44 : decode c_Mod_member 44 = .ok (.imul, 1) := by decide +kernel
theorem d_Mod_member_45 : decode c_Mod_member 45 = .ok (.iconst 2, 1) := by decide +kernel
theorem d_Mod_member_46 : decode c_Mod_member 46 = .ok (.iadd, 1) := by decide +kernel
theorem d_Mod_member_47 : decode c_Mod_member 47 = .ok (.iaload, 1) := by decide +kernel
theorem d_Mod_member_48 : decode c_Mod_member 48 = .ok (.iload_n 2, 1) := by decide +kernel
theorem d_Mod_member_49 : decode c_Mod_member 49 = .ok (.iadd, 1) := by decide +kernel
theorem d_Mod_member_50 : decode c_Mod_member 50 = .ok (.ireturn, 1) := by decide +kernel
abbrev c_Mod_joinBuses : ByteArray := prog_10_method_18_code
def y_Mod_joinBuses : MethodName := ⟨"NetJoinsModel", "joinBuses", "(IIII)V"⟩
theorem ok_Mod_joinBuses : vOK y_Mod_joinBuses c_Mod_joinBuses 7 none 4 := ⟨kw_1295, kw_1294, ks_58, kw_8, by decide +kernel⟩
theorem d_Mod_joinBuses_0 : decode c_Mod_joinBuses 0 = .ok (.aload_n 0, 1) := by decide +kernel
theorem d_Mod_joinBuses_1 : decode c_Mod_joinBuses 1 = .ok (.getfield 13, 3) := by decide +kernel
theorem d_Mod_joinBuses_4 : decode c_Mod_joinBuses 4 = .ok (.iload_n 2, 1) := by decide +kernel
theorem d_Mod_joinBuses_5 : decode c_Mod_joinBuses 5 = .ok (.iaload, 1) := by decide +kernel
theorem d_Mod_joinBuses_6 : decode c_Mod_joinBuses 6 = .ok (.aload_n 0, 1) := by decide +kernel
theorem d_Mod_joinBuses_7 : decode c_Mod_joinBuses 7 = .ok (.getfield 57, 3) := by decide +kernel
theorem d_Mod_joinBuses_10 : decode c_Mod_joinBuses 10 = .ok (.iconst 4, 1) := by decide +kernel
theorem d_Mod_joinBuses_11 : decode c_Mod_joinBuses 11 = .ok (.iload_n 1, 1) := by decide +kernel
theorem d_Mod_joinBuses_12 : decode c_Mod_joinBuses 12 = .ok (.imul, 1) := by decide +kernel
theorem d_Mod_joinBuses_13 : decode c_Mod_joinBuses 13 = .ok (.iaload, 1) := by decide +kernel
theorem d_Mod_joinBuses_14 : decode c_Mod_joinBuses 14 = .ok (.if_icmp .ne 70, 3) := by decide +kernel
theorem d_Mod_joinBuses_17 : decode c_Mod_joinBuses 17 = .ok (.aload_n 0, 1) := by decide +kernel
theorem d_Mod_joinBuses_18 : decode c_Mod_joinBuses 18 = .ok (.getfield 13, 3) := by decide +kernel
theorem d_Mod_joinBuses_21 : decode c_Mod_joinBuses 21 = .ok (.iload 4, 2) := by decide +kernel
theorem d_Mod_joinBuses_23 : decode c_Mod_joinBuses 23 = .ok (.iaload, 1) := by decide +kernel
theorem d_Mod_joinBuses_24 : decode c_Mod_joinBuses 24 = .ok (.aload_n 0, 1) := by decide +kernel
theorem d_Mod_joinBuses_25 : decode c_Mod_joinBuses 25 = .ok (.getfield 57, 3) := by decide +kernel
theorem d_Mod_joinBuses_28 : decode c_Mod_joinBuses 28 = .ok (.iconst 4, 1) := by decide +kernel
theorem d_Mod_joinBuses_29 : decode c_Mod_joinBuses 29 = .ok (.iload_n 3, 1) := by decide +kernel
theorem d_Mod_joinBuses_30 : decode c_Mod_joinBuses 30 = .ok (.imul, 1) := by decide +kernel
theorem d_Mod_joinBuses_31 : decode c_Mod_joinBuses 31 = .ok (.iaload, 1) := by decide +kernel
theorem d_Mod_joinBuses_32 : decode c_Mod_joinBuses 32 = .ok (.if_icmp .ne 52, 3) := by decide +kernel
theorem d_Mod_joinBuses_35 : decode c_Mod_joinBuses 35 = .ok (.aload_n 0, 1) := by decide +kernel
theorem d_Mod_joinBuses_36 : decode c_Mod_joinBuses 36 = .ok (.getfield 57, 3) := by decide +kernel
theorem d_Mod_joinBuses_39 : decode c_Mod_joinBuses 39 = .ok (.iconst 4, 1) := by decide +kernel
theorem d_Mod_joinBuses_40 : decode c_Mod_joinBuses 40 = .ok (.iload_n 1, 1) := by decide +kernel
theorem d_Mod_joinBuses_41 : decode c_Mod_joinBuses 41 = .ok (.imul, 1) := by decide +kernel
theorem d_Mod_joinBuses_42 : decode c_Mod_joinBuses 42 = .ok (.iconst 1, 1) := by decide +kernel
theorem d_Mod_joinBuses_43 : decode c_Mod_joinBuses 43 = .ok (.iadd, 1) := by decide +kernel
theorem d_Mod_joinBuses_44 : decode c_Mod_joinBuses 44 = .ok (.iaload, 1) := by decide +kernel
theorem d_Mod_joinBuses_45 : decode c_Mod_joinBuses 45 = .ok (.aload_n 0, 1) := by decide +kernel
theorem d_Mod_joinBuses_46 : decode c_Mod_joinBuses 46 = .ok (.getfield 57, 3) := by decide +kernel
theorem d_Mod_joinBuses_49 : decode c_Mod_joinBuses 49 = .ok (.iconst 4, 1) := by decide +kernel
theorem d_Mod_joinBuses_50 : decode c_Mod_joinBuses 50 = .ok (.iload_n 3, 1) := by decide +kernel
theorem d_Mod_joinBuses_51 : decode c_Mod_joinBuses 51 = .ok (.imul, 1) := by decide +kernel
theorem d_Mod_joinBuses_52 : decode c_Mod_joinBuses 52 = .ok (.iconst 1, 1) := by decide +kernel
theorem d_Mod_joinBuses_53 : decode c_Mod_joinBuses 53 = .ok (.iadd, 1) := by decide +kernel
theorem d_Mod_joinBuses_54 : decode c_Mod_joinBuses 54 = .ok (.iaload, 1) := by decide +kernel
theorem d_Mod_joinBuses_55 : decode c_Mod_joinBuses 55 = .ok (.if_icmp .ne 29, 3) := by decide +kernel
theorem d_Mod_joinBuses_58 : decode c_Mod_joinBuses 58 = .ok (.iload_n 2, 1) := by decide +kernel
theorem d_Mod_joinBuses_59 : decode c_Mod_joinBuses 59 = .ok (.iload 4, 2) := by decide +kernel
theorem d_Mod_joinBuses_61 : decode c_Mod_joinBuses 61 = .ok (.if_icmp .eq 19, 3) := by decide +kernel
theorem d_Mod_joinBuses_64 : decode c_Mod_joinBuses 64 = .ok (.aload_n 0, 1) := by decide +kernel
theorem d_Mod_joinBuses_65 : decode c_Mod_joinBuses 65 = .ok (.getfield 57, 3) := by decide +kernel
theorem d_Mod_joinBuses_68 : decode c_Mod_joinBuses 68 = .ok (.iconst 4, 1) := by decide +kernel
theorem d_Mod_joinBuses_69 : decode c_Mod_joinBuses 69 = .ok (.iload_n 1, 1) := by decide +kernel
theorem d_Mod_joinBuses_70 : decode c_Mod_joinBuses 70 = .ok (.imul, 1) := by decide +kernel
theorem d_Mod_joinBuses_71 : decode c_Mod_joinBuses 71 = .ok (.iconst 1, 1) := by decide +kernel
theorem d_Mod_joinBuses_72 : decode c_Mod_joinBuses 72 = .ok (.iadd, 1) := by decide +kernel
theorem d_Mod_joinBuses_73 : decode c_Mod_joinBuses 73 = .ok (.iaload, 1) := by decide +kernel
theorem d_Mod_joinBuses_74 : decode c_Mod_joinBuses 74 = .ok (.sipush 900, 3) := by decide +kernel
theorem d_Mod_joinBuses_77 : decode c_Mod_joinBuses 77 = .ok (.if_icmp .lt 7, 3) := by decide +kernel
theorem d_Mod_joinBuses_80 : decode c_Mod_joinBuses 80 = .ok (.iconst 1, 1) := by decide +kernel
theorem d_Mod_joinBuses_81 : decode c_Mod_joinBuses 81 = .ok (.goto 4, 3) := by decide +kernel
theorem d_Mod_joinBuses_84 : decode c_Mod_joinBuses 84 = .ok (.iconst 0, 1) := by decide +kernel
theorem d_Mod_joinBuses_85 : decode c_Mod_joinBuses 85 = .ok (.istore 5, 2) := by decide +kernel
theorem d_Mod_joinBuses_87 : decode c_Mod_joinBuses 87 = .ok (.iconst 0, 1) := by decide +kernel
theorem d_Mod_joinBuses_88 : decode c_Mod_joinBuses 88 = .ok (.istore 6, 2) := by decide +kernel
theorem d_Mod_joinBuses_90 : decode c_Mod_joinBuses 90 = .ok (.iload 5, 2) := by decide +kernel
theorem d_Mod_joinBuses_92 : decode c_Mod_joinBuses 92 = .ok (.ifCond .eq 58, 3) := by decide +kernel
theorem d_Mod_joinBuses_95 : decode c_Mod_joinBuses 95 = .ok (.iload 6, 2) := by decide +kernel
theorem d_Mod_joinBuses_97 : decode c_Mod_joinBuses 97 = .ok (.aload_n 0, 1) := by decide +kernel
theorem d_Mod_joinBuses_98 : decode c_Mod_joinBuses 98 = .ok (.iload_n 1, 1) := by decide +kernel
theorem d_Mod_joinBuses_99 : decode c_Mod_joinBuses 99 = .ok (.invokevirtual 135, 3) := by decide +kernel
theorem d_Mod_joinBuses_102 : decode c_Mod_joinBuses 102 = .ok (.if_icmp .ge 48, 3) := by decide +kernel
theorem d_Mod_joinBuses_105 : decode c_Mod_joinBuses 105 = .ok (.iload 6, 2) := by decide +kernel
theorem d_Mod_joinBuses_107 : decode c_Mod_joinBuses 107 = .ok (.aload_n 0, 1) := by decide +kernel
theorem d_Mod_joinBuses_108 : decode c_Mod_joinBuses 108 = .ok (.iload_n 3, 1) := by decide +kernel
theorem d_Mod_joinBuses_109 : decode c_Mod_joinBuses 109 = .ok (.invokevirtual 135, 3) := by decide +kernel
theorem d_Mod_joinBuses_112 : decode c_Mod_joinBuses 112 = .ok (.if_icmp .ge 38, 3) := by decide +kernel
theorem d_Mod_joinBuses_115 : decode c_Mod_joinBuses 115 = .ok (.aload_n 0, 1) := by decide +kernel
theorem d_Mod_joinBuses_116 : decode c_Mod_joinBuses 116 = .ok (.aload_n 0, 1) := by decide +kernel
theorem d_Mod_joinBuses_117 : decode c_Mod_joinBuses 117 = .ok (.iload_n 2, 1) := by decide +kernel
theorem d_Mod_joinBuses_118 : decode c_Mod_joinBuses 118 = .ok (.aload_n 0, 1) := by decide +kernel
theorem d_Mod_joinBuses_119 : decode c_Mod_joinBuses 119 = .ok (.iload_n 1, 1) := by decide +kernel
theorem d_Mod_joinBuses_120 : decode c_Mod_joinBuses 120 = .ok (.iload 6, 2) := by decide +kernel
theorem d_Mod_joinBuses_122 : decode c_Mod_joinBuses 122 = .ok (.invokevirtual 138, 3) := by decide +kernel
theorem d_Mod_joinBuses_125 : decode c_Mod_joinBuses 125 = .ok (.invokevirtual 131, 3) := by decide +kernel
theorem d_Mod_joinBuses_128 : decode c_Mod_joinBuses 128 = .ok (.aload_n 0, 1) := by decide +kernel
theorem d_Mod_joinBuses_129 : decode c_Mod_joinBuses 129 = .ok (.iload 4, 2) := by decide +kernel
theorem d_Mod_joinBuses_131 : decode c_Mod_joinBuses 131 = .ok (.aload_n 0, 1) := by decide +kernel
theorem d_Mod_joinBuses_132 : decode c_Mod_joinBuses 132 = .ok (.iload_n 3, 1) := by decide +kernel
theorem d_Mod_joinBuses_133 : decode c_Mod_joinBuses 133 = .ok (.iload 6, 2) := by decide +kernel
theorem d_Mod_joinBuses_135 : decode c_Mod_joinBuses 135 = .ok (.invokevirtual 138, 3) := by decide +kernel
theorem d_Mod_joinBuses_138 : decode c_Mod_joinBuses 138 = .ok (.invokevirtual 131, 3) := by decide +kernel
theorem d_Mod_joinBuses_141 : decode c_Mod_joinBuses 141 = .ok (.invokevirtual 114, 3) := by decide +kernel
theorem d_Mod_joinBuses_144 : decode c_Mod_joinBuses 144 = .ok (.iinc 6 1, 3) := by decide +kernel
theorem d_Mod_joinBuses_147 : decode c_Mod_joinBuses 147 = .ok (.goto (-57), 3) := by decide +kernel
theorem d_Mod_joinBuses_150 : decode c_Mod_joinBuses 150 = .ok (.return_, 1) := by decide +kernel
abbrev c_Mod_joinAll : ByteArray := prog_10_method_19_code
def y_Mod_joinAll : MethodName := ⟨"NetJoinsModel", "joinAll", "()V"⟩
theorem ok_Mod_joinAll : vOK y_Mod_joinAll c_Mod_joinAll 5 none 0 := ⟨kw_1255, kw_1254, ks_48, kw_8, by decide +kernel⟩
theorem d_Mod_joinAll_0 : decode c_Mod_joinAll 0 = .ok (.iconst 0, 1) := by decide +kernel
theorem d_Mod_joinAll_1 : decode c_Mod_joinAll 1 = .ok (.istore_n 1, 1) := by decide +kernel
theorem d_Mod_joinAll_2 : decode c_Mod_joinAll 2 = .ok (.iload_n 1, 1) := by decide +kernel
theorem d_Mod_joinAll_3 : decode c_Mod_joinAll 3 = .ok (.sipush 19520, 3) := by decide +kernel
theorem d_Mod_joinAll_6 : decode c_Mod_joinAll 6 = .ok (.if_icmp .ge 16, 3) := by decide +kernel
theorem d_Mod_joinAll_9 : decode c_Mod_joinAll 9 = .ok (.aload_n 0, 1) := by decide +kernel
theorem d_Mod_joinAll_10 : decode c_Mod_joinAll 10 = .ok (.getfield 63, 3) := by decide +kernel
theorem d_Mod_joinAll_13 : decode c_Mod_joinAll 13 = .ok (.iload_n 1, 1) := by decide +kernel
theorem d_Mod_joinAll_14 : decode c_Mod_joinAll 14 = .ok (.iload_n 1, 1) := by decide +kernel
theorem d_Mod_joinAll_15 : decode c_Mod_joinAll 15 = .ok (.iastore, 1) := by decide +kernel
theorem d_Mod_joinAll_16 : decode c_Mod_joinAll 16 = .ok (.iinc 1 1, 3) := by decide +kernel
theorem d_Mod_joinAll_19 : decode c_Mod_joinAll 19 = .ok (.goto (-17), 3) := by decide +kernel
theorem d_Mod_joinAll_22 : decode c_Mod_joinAll 22 = .ok (.iconst 0, 1) := by decide +kernel
theorem d_Mod_joinAll_23 : decode c_Mod_joinAll 23 = .ok (.istore_n 1, 1) := by decide +kernel
theorem d_Mod_joinAll_24 : decode c_Mod_joinAll 24 = .ok (.iload_n 1, 1) := by decide +kernel
theorem d_Mod_joinAll_25 : decode c_Mod_joinAll 25 = .ok (.aload_n 0, 1) := by decide +kernel
theorem d_Mod_joinAll_26 : decode c_Mod_joinAll 26 = .ok (.getfield 82, 3) := by decide +kernel
theorem d_Mod_joinAll_29 : decode c_Mod_joinAll 29 = .ok (.if_icmp .ge 73, 3) := by decide +kernel
theorem d_Mod_joinAll_32 : decode c_Mod_joinAll 32 = .ok (.aload_n 0, 1) := by decide +kernel
theorem d_Mod_joinAll_33 : decode c_Mod_joinAll 33 = .ok (.iload_n 1, 1) := by decide +kernel
theorem d_Mod_joinAll_34 : decode c_Mod_joinAll 34 = .ok (.invokevirtual 141, 3) := by decide +kernel
theorem d_Mod_joinAll_37 : decode c_Mod_joinAll 37 = .ok (.iconst 0, 1) := by decide +kernel
theorem d_Mod_joinAll_38 : decode c_Mod_joinAll 38 = .ok (.istore_n 2, 1) := by decide +kernel
theorem d_Mod_joinAll_39 : decode c_Mod_joinAll 39 = .ok (.iload_n 2, 1) := by decide +kernel
theorem d_Mod_joinAll_40 : decode c_Mod_joinAll 40 = .ok (.aload_n 0, 1) := by decide +kernel
theorem d_Mod_joinAll_41 : decode c_Mod_joinAll 41 = .ok (.getfield 82, 3) := by decide +kernel
theorem d_Mod_joinAll_44 : decode c_Mod_joinAll 44 = .ok (.if_icmp .ge 52, 3) := by decide +kernel
theorem d_Mod_joinAll_47 : decode c_Mod_joinAll 47 = .ok (.iconst 0, 1) := by decide +kernel
theorem d_Mod_joinAll_48 : decode c_Mod_joinAll 48 = .ok (.istore_n 3, 1) := by decide +kernel
theorem d_Mod_joinAll_49 : decode c_Mod_joinAll 49 = .ok (.iload_n 3, 1) := by decide +kernel
theorem d_Mod_joinAll_50 : decode c_Mod_joinAll 50 = .ok (.aload_n 0, 1) := by decide +kernel
theorem d_Mod_joinAll_51 : decode c_Mod_joinAll 51 = .ok (.getfield 145, 3) := by decide +kernel
theorem d_Mod_joinAll_54 : decode c_Mod_joinAll 54 = .ok (.if_icmp .ge 36, 3) := by decide +kernel
theorem d_Mod_joinAll_57 : decode c_Mod_joinAll 57 = .ok (.iconst 0, 1) := by decide +kernel
theorem d_Mod_joinAll_58 : decode c_Mod_joinAll 58 = .ok (.istore 4, 2) := by decide +kernel
theorem d_Mod_joinAll_60 : decode c_Mod_joinAll 60 = .ok (.iload 4, 2) := by decide +kernel
theorem d_Mod_joinAll_62 : decode c_Mod_joinAll 62 = .ok (.aload_n 0, 1) := by decide +kernel
theorem d_Mod_joinAll_63 : decode c_Mod_joinAll 63 = .ok (.getfield 145, 3) := by decide +kernel
theorem d_Mod_joinAll_66 : decode c_Mod_joinAll 66 = .ok (.if_icmp .ge 18, 3) := by decide +kernel
theorem d_Mod_joinAll_69 : decode c_Mod_joinAll 69 = .ok (.aload_n 0, 1) := by decide +kernel
theorem d_Mod_joinAll_70 : decode c_Mod_joinAll 70 = .ok (.iload_n 3, 1) := by decide +kernel
theorem d_Mod_joinAll_71 : decode c_Mod_joinAll 71 = .ok (.iload_n 1, 1) := by decide +kernel
theorem d_Mod_joinAll_72 : decode c_Mod_joinAll 72 = .ok (.iload 4, 2) := by decide +kernel
theorem d_Mod_joinAll_74 : decode c_Mod_joinAll 74 = .ok (.iload_n 2, 1) := by decide +kernel
theorem d_Mod_joinAll_75 : decode c_Mod_joinAll 75 = .ok (.invokevirtual 148, 3) := by decide +kernel
theorem d_Mod_joinAll_78 : decode c_Mod_joinAll 78 = .ok (.iinc 4 1, 3) := by decide +kernel
theorem d_Mod_joinAll_81 : decode c_Mod_joinAll 81 = .ok (.goto (-21), 3) := by decide +kernel
theorem d_Mod_joinAll_84 : decode c_Mod_joinAll 84 = .ok (.iinc 3 1, 3) := by decide +kernel
theorem d_Mod_joinAll_87 : decode c_Mod_joinAll 87 = .ok (.goto (-38), 3) := by decide +kernel
theorem d_Mod_joinAll_90 : decode c_Mod_joinAll 90 = .ok (.iinc 2 1, 3) := by decide +kernel
theorem d_Mod_joinAll_93 : decode c_Mod_joinAll 93 = .ok (.goto (-54), 3) := by decide +kernel
theorem d_Mod_joinAll_96 : decode c_Mod_joinAll 96 = .ok (.iinc 1 1, 3) := by decide +kernel
theorem d_Mod_joinAll_99 : decode c_Mod_joinAll 99 = .ok (.goto (-75), 3) := by decide +kernel
theorem d_Mod_joinAll_102 : decode c_Mod_joinAll 102 = .ok (.iconst 0, 1) := by decide +kernel
theorem d_Mod_joinAll_103 : decode c_Mod_joinAll 103 = .ok (.istore_n 1, 1) := by decide +kernel
theorem d_Mod_joinAll_104 : decode c_Mod_joinAll 104 = .ok (.iload_n 1, 1) := by decide +kernel
theorem d_Mod_joinAll_105 : decode c_Mod_joinAll 105 = .ok (.aload_n 0, 1) := by decide +kernel
theorem d_Mod_joinAll_106 : decode c_Mod_joinAll 106 = .ok (.getfield 152, 3) := by decide +kernel
theorem d_Mod_joinAll_109 : decode c_Mod_joinAll 109 = .ok (.if_icmp .ge 61, 3) := by decide +kernel
theorem d_Mod_joinAll_112 : decode c_Mod_joinAll 112 = .ok (.aload_n 0, 1) := by decide +kernel
theorem d_Mod_joinAll_113 : decode c_Mod_joinAll 113 = .ok (.getfield 54, 3) := by decide +kernel
theorem d_Mod_joinAll_116 : decode c_Mod_joinAll 116 = .ok (.iconst 3, 1) := by decide +kernel
theorem d_Mod_joinAll_117 : decode c_Mod_joinAll 117 = .ok (.iload_n 1, 1) := by decide +kernel
theorem d_Mod_joinAll_118 : decode c_Mod_joinAll 118 = .ok (.imul, 1) := by decide +kernel
theorem d_Mod_joinAll_119 : decode c_Mod_joinAll 119 = .ok (.iaload, 1) := by decide +kernel
theorem d_Mod_joinAll_120 : decode c_Mod_joinAll 120 = .ok (.istore_n 2, 1) := by decide +kernel
theorem d_Mod_joinAll_121 : decode c_Mod_joinAll 121 = .ok (.aload_n 0, 1) := by decide +kernel
theorem d_Mod_joinAll_122 : decode c_Mod_joinAll 122 = .ok (.sipush 1600, 3) := by decide +kernel
theorem d_Mod_joinAll_125 : decode c_Mod_joinAll 125 = .ok (.bipush 16, 2) := by decide +kernel
theorem d_Mod_joinAll_127 : decode c_Mod_joinAll 127 = .ok (.aload_n 0, 1) := by decide +kernel
theorem d_Mod_joinAll_128 : decode c_Mod_joinAll 128 = .ok (.getfield 54, 3) := by decide +kernel
theorem d_Mod_joinAll_131 : decode c_Mod_joinAll 131 = .ok (.iconst 3, 1) := by decide +kernel
theorem d_Mod_joinAll_132 : decode c_Mod_joinAll 132 = .ok (.iload_n 1, 1) := by decide +kernel
theorem d_Mod_joinAll_133 : decode c_Mod_joinAll 133 = .ok (.imul, 1) := by decide +kernel
theorem d_Mod_joinAll_134 : decode c_Mod_joinAll 134 = .ok (.iconst 1, 1) := by decide +kernel
theorem d_Mod_joinAll_135 : decode c_Mod_joinAll 135 = .ok (.iadd, 1) := by decide +kernel
theorem d_Mod_joinAll_136 : decode c_Mod_joinAll 136 = .ok (.iaload, 1) := by decide +kernel
theorem d_Mod_joinAll_137 : decode c_Mod_joinAll 137 = .ok (.imul, 1) := by decide +kernel
theorem d_Mod_joinAll_138 : decode c_Mod_joinAll 138 = .ok (.iadd, 1) := by decide +kernel
theorem d_Mod_joinAll_139 : decode c_Mod_joinAll 139 = .ok (.iload_n 2, 1) := by decide +kernel
theorem d_Mod_joinAll_140 : decode c_Mod_joinAll 140 = .ok (.iadd, 1) := by decide +kernel
theorem d_Mod_joinAll_141 : decode c_Mod_joinAll 141 = .ok (.aload_n 0, 1) := by decide +kernel
theorem d_Mod_joinAll_142 : decode c_Mod_joinAll 142 = .ok (.aload_n 0, 1) := by decide +kernel
theorem d_Mod_joinAll_143 : decode c_Mod_joinAll 143 = .ok (.getfield 7, 3) := by decide +kernel
theorem d_Mod_joinAll_146 : decode c_Mod_joinAll 146 = .ok (.iload_n 2, 1) := by decide +kernel
theorem d_Mod_joinAll_147 : decode c_Mod_joinAll 147 = .ok (.iaload, 1) := by decide +kernel
theorem d_Mod_joinAll_148 : decode c_Mod_joinAll 148 = .ok (.aload_n 0, 1) := by decide +kernel
theorem d_Mod_joinAll_149 : decode c_Mod_joinAll 149 = .ok (.getfield 54, 3) := by decide +kernel
theorem d_Mod_joinAll_152 : decode c_Mod_joinAll 152 = .ok (.iconst 3, 1) := by decide +kernel
theorem d_Mod_joinAll_153 : decode c_Mod_joinAll 153 = .ok (.iload_n 1, 1) := by decide +kernel
theorem d_Mod_joinAll_154 : decode c_Mod_joinAll 154 = .ok (.imul, 1) := by decide +kernel
theorem d_Mod_joinAll_155 : decode c_Mod_joinAll 155 = .ok (.iconst 2, 1) := by decide +kernel
theorem d_Mod_joinAll_156 : decode c_Mod_joinAll 156 = .ok (.iadd, 1) := by decide +kernel
theorem d_Mod_joinAll_157 : decode c_Mod_joinAll 157 = .ok (.iaload, 1) := by decide +kernel
theorem d_Mod_joinAll_158 : decode c_Mod_joinAll 158 = .ok (.invokevirtual 131, 3) := by decide +kernel
theorem d_Mod_joinAll_161 : decode c_Mod_joinAll 161 = .ok (.invokevirtual 114, 3) := by decide +kernel
theorem d_Mod_joinAll_164 : decode c_Mod_joinAll 164 = .ok (.iinc 1 1, 3) := by decide +kernel
theorem d_Mod_joinAll_167 : decode c_Mod_joinAll 167 = .ok (.goto (-63), 3) := by decide +kernel
theorem d_Mod_joinAll_170 : decode c_Mod_joinAll 170 = .ok (.return_, 1) := by decide +kernel
