abbrev c_NJ_nets : ByteArray := prog_1_method_12_code
def y_NJ_nets : MethodName := ⟨"NetJoins", "nets", "()I"⟩
theorem ok_NJ_nets : vOK y_NJ_nets c_NJ_nets 1 (some .int) 0 := ⟨kw_178, kw_176, kw_177, kw_1, by decide +kernel⟩
theorem d_NJ_nets_0 : decode c_NJ_nets 0 = .ok (.aload_n 0, 1) := by decide +kernel
theorem d_NJ_nets_1 : decode c_NJ_nets 1 = .ok (.getfield 56, 3) := by decide +kernel
theorem d_NJ_nets_4 : decode c_NJ_nets 4 = .ok (.getfield 234, 3) := by decide +kernel
theorem d_NJ_nets_7 : decode c_NJ_nets 7 = .ok (.ireturn, 1) := by decide +kernel
abbrev c_NJ_isPower : ByteArray := prog_1_method_39_code
def y_NJ_isPower : MethodName := ⟨"NetJoins", "isPower", "(I)Z"⟩
theorem ok_NJ_isPower : sOK y_NJ_isPower c_NJ_isPower 1 (some .boolean) 1 := ⟨kw_221, kw_220, kw_1, by decide +kernel⟩
theorem d_NJ_isPower_0 : decode c_NJ_isPower 0 = .ok (.iload_n 0, 1) := by decide +kernel
theorem d_NJ_isPower_1 : decode c_NJ_isPower 1 = .ok (.sipush 900, 3) := by decide +kernel
theorem d_NJ_isPower_4 : decode c_NJ_isPower 4 = .ok (.if_icmp .lt 7, 3) := by decide +kernel
theorem d_NJ_isPower_7 : decode c_NJ_isPower 7 = .ok (.iconst 1, 1) := by decide +kernel
theorem d_NJ_isPower_8 : decode c_NJ_isPower 8 = .ok (.goto 4, 3) := by decide +kernel
theorem d_NJ_isPower_11 : decode c_NJ_isPower 11 = .ok (.iconst 0, 1) := by decide +kernel
theorem d_NJ_isPower_12 : decode c_NJ_isPower 12 = .ok (.ireturn, 1) := by decide +kernel
abbrev c_NJ_nameNode : ByteArray := prog_1_method_40_code
def y_NJ_nameNode : MethodName := ⟨"NetJoins", "nameNode", "(II)I"⟩
theorem ok_NJ_nameNode : sOK y_NJ_nameNode c_NJ_nameNode 2 (some .int) 2 := ⟨kw_218, kw_217, kw_1, by decide +kernel⟩
theorem d_NJ_nameNode_0 : decode c_NJ_nameNode 0 = .ok (.iload_n 1, 1) := by decide +kernel
theorem d_NJ_nameNode_1 : decode c_NJ_nameNode 1 = .ok (.invokestatic 359, 3) := by decide +kernel
theorem d_NJ_nameNode_4 : decode c_NJ_nameNode 4 = .ok (.ifCond .eq 15, 3) := by decide +kernel
theorem d_NJ_nameNode_7 : decode c_NJ_nameNode 7 = .ok (.sipush 960, 3) := by decide +kernel
theorem d_NJ_nameNode_10 : decode c_NJ_nameNode 10 = .ok (.iload_n 1, 1) := by decide +kernel
theorem d_NJ_nameNode_11 : decode c_NJ_nameNode 11 = .ok (.iadd, 1) := by decide +kernel
theorem d_NJ_nameNode_12 : decode c_NJ_nameNode 12 = .ok (.sipush 900, 3) := by decide +kernel
theorem d_NJ_nameNode_15 : decode c_NJ_nameNode 15 = .ok (.isub, 1) := by decide +kernel
theorem d_NJ_nameNode_16 : decode c_NJ_nameNode 16 = .ok (.goto 10, 3) := by decide +kernel
theorem d_NJ_nameNode_19 : decode c_NJ_nameNode 19 = .ok (.iconst 1, 1) := by decide +kernel
theorem d_NJ_nameNode_20 : decode c_NJ_nameNode 20 = .ok (.iload_n 0, 1) := by decide +kernel
theorem d_NJ_nameNode_21 : decode c_NJ_nameNode 21 = .ok (.iadd, 1) := by decide +kernel
theorem d_NJ_nameNode_22 : decode c_NJ_nameNode 22 = .ok (.iload_n 1, 1) := by decide +kernel
theorem d_NJ_nameNode_23 : decode c_NJ_nameNode 23 = .ok (.invokestatic 362, 3) := by decide +kernel
theorem d_NJ_nameNode_26 : decode c_NJ_nameNode 26 = .ok (.ireturn, 1) := by decide +kernel
abbrev c_NJ_netOfLabel : ByteArray := prog_1_method_54_code
def y_NJ_netOfLabel : MethodName := ⟨"NetJoins", "netOfLabel", "(LNetJoins$Spot;LNetJoins$Sheet;)I"⟩
theorem ok_NJ_netOfLabel : vOK y_NJ_netOfLabel c_NJ_netOfLabel 4 (some .int) 2 := ⟨kw_215, kw_214, ks_3, kw_1, by decide +kernel⟩
theorem d_NJ_netOfLabel_0 : decode c_NJ_netOfLabel 0 = .ok (.aload_n 2, 1) := by decide +kernel
theorem d_NJ_netOfLabel_1 : decode c_NJ_netOfLabel 1 = .ok (.getfield 202, 3) := by decide +kernel
theorem d_NJ_netOfLabel_4 : decode c_NJ_netOfLabel 4 = .ok (.aload_n 1, 1) := by decide +kernel
theorem d_NJ_netOfLabel_5 : decode c_NJ_netOfLabel 5 = .ok (.getfield 237, 3) := by decide +kernel
theorem d_NJ_netOfLabel_8 : decode c_NJ_netOfLabel 8 = .ok (.if_icmp .eq 5, 3) := by decide +kernel
theorem d_NJ_netOfLabel_11 : decode c_NJ_netOfLabel 11 = .ok (.iconst (-1), 1) := by decide +kernel
theorem d_NJ_netOfLabel_12 : decode c_NJ_netOfLabel 12 = .ok (.ireturn, 1) := by decide +kernel
theorem d_NJ_netOfLabel_13 : decode c_NJ_netOfLabel 13 = .ok (.aload_n 0, 1) := by decide +kernel
theorem d_NJ_netOfLabel_14 : decode c_NJ_netOfLabel 14 = .ok (.getfield 50, 3) := by decide +kernel
theorem d_NJ_netOfLabel_17 : decode c_NJ_netOfLabel 17 = .ok (.aload_n 2, 1) := by decide +kernel
theorem d_NJ_netOfLabel_18 : decode c_NJ_netOfLabel 18 = .ok (.getfield 368, 3) := by decide +kernel
theorem d_NJ_netOfLabel_21 : decode c_NJ_netOfLabel 21 = .ok (.aload_n 1, 1) := by decide +kernel
theorem d_NJ_netOfLabel_22 : decode c_NJ_netOfLabel 22 = .ok (.getfield 176, 3) := by decide +kernel
theorem d_NJ_netOfLabel_25 : decode c_NJ_netOfLabel 25 = .ok (.invokestatic 180, 3) := by decide +kernel
theorem d_NJ_netOfLabel_28 : decode c_NJ_netOfLabel 28 = .ok (.invokevirtual 377, 3) := by decide +kernel
theorem d_NJ_netOfLabel_31 : decode c_NJ_netOfLabel 31 = .ok (.istore_n 3, 1) := by decide +kernel
theorem d_NJ_netOfLabel_32 : decode c_NJ_netOfLabel 32 = .ok (.iload_n 3, 1) := by decide +kernel
theorem d_NJ_netOfLabel_33 : decode c_NJ_netOfLabel 33 = .ok (.sipush 960, 3) := by decide +kernel
theorem d_NJ_netOfLabel_36 : decode c_NJ_netOfLabel 36 = .ok (.if_icmp .ge 15, 3) := by decide +kernel
theorem d_NJ_netOfLabel_39 : decode c_NJ_netOfLabel 39 = .ok (.aload_n 0, 1) := by decide +kernel
theorem d_NJ_netOfLabel_40 : decode c_NJ_netOfLabel 40 = .ok (.getfield 56, 3) := by decide +kernel
theorem d_NJ_netOfLabel_43 : decode c_NJ_netOfLabel 43 = .ok (.getfield 246, 3) := by decide +kernel
theorem d_NJ_netOfLabel_46 : decode c_NJ_netOfLabel 46 = .ok (.iload_n 3, 1) := by decide +kernel
theorem d_NJ_netOfLabel_47 : decode c_NJ_netOfLabel 47 = .ok (.iaload, 1) := by decide +kernel
theorem d_NJ_netOfLabel_48 : decode c_NJ_netOfLabel 48 = .ok (.goto 4, 3) := by decide +kernel
theorem d_NJ_netOfLabel_51 : decode c_NJ_netOfLabel 51 = .ok (.iconst (-1), 1) := by decide +kernel
theorem d_NJ_netOfLabel_52 : decode c_NJ_netOfLabel 52 = .ok (.ireturn, 1) := by decide +kernel
abbrev c_NJ_listNames : ByteArray := prog_1_method_55_code
def y_NJ_listNames : MethodName := ⟨"NetJoins", "listNames", "()V"⟩
theorem ok_NJ_listNames : vOK y_NJ_listNames c_NJ_listNames 4 none 0 := ⟨kw_190, kw_189, ks_2, kw_1, by decide +kernel⟩
theorem d_NJ_listNames_0 : decode c_NJ_listNames 0 = .ok (.aload_n 0, 1) := by decide +kernel
theorem d_NJ_listNames_1 : decode c_NJ_listNames 1 = .ok (.getfield 414, 3) := by decide +kernel
theorem d_NJ_listNames_4 : decode c_NJ_listNames 4 = .ok (.ifCond .eq 4, 3) := by decide +kernel
theorem d_NJ_listNames_7 : decode c_NJ_listNames 7 = .ok (.return_, 1) := by decide +kernel
theorem d_NJ_listNames_8 : decode c_NJ_listNames 8 = .ok (.aload_n 0, 1) := by decide +kernel
theorem d_NJ_listNames_9 : decode c_NJ_listNames 9 = .ok (.getfield 60, 3) := by decide +kernel
theorem d_NJ_listNames_12 : decode c_NJ_listNames 12 = .ok (.iconst 0, 1) := by decide +kernel
theorem d_NJ_listNames_13 : decode c_NJ_listNames 13 = .ok (.invokestatic 426, 3) := by decide +kernel
theorem d_NJ_listNames_16 : decode c_NJ_listNames 16 = .ok (.aload_n 0, 1) := by decide +kernel
theorem d_NJ_listNames_17 : decode c_NJ_listNames 17 = .ok (.getfield 25, 3) := by decide +kernel
theorem d_NJ_listNames_20 : decode c_NJ_listNames 20 = .ok (.invokevirtual 76, 3) := by decide +kernel
theorem d_NJ_listNames_23 : decode c_NJ_listNames 23 = .ok (.iconst 1, 1) := by decide +kernel
theorem d_NJ_listNames_24 : decode c_NJ_listNames 24 = .ok (.isub, 1) := by decide +kernel
theorem d_NJ_listNames_25 : decode c_NJ_listNames 25 = .ok (.istore_n 1, 1) := by decide +kernel
theorem d_NJ_listNames_26 : decode c_NJ_listNames 26 = .ok (.iload_n 1, 1) := by decide +kernel
theorem d_NJ_listNames_27 : decode c_NJ_listNames 27 = .ok (.ifCond .lt 70, 3) := by decide +kernel
theorem d_NJ_listNames_30 : decode c_NJ_listNames 30 = .ok (.iconst 0, 1) := by decide +kernel
theorem d_NJ_listNames_31 : decode c_NJ_listNames 31 = .ok (.istore_n 2, 1) := by decide +kernel
theorem d_NJ_listNames_32 : decode c_NJ_listNames 32 = .ok (.iload_n 2, 1) := by decide +kernel
theorem d_NJ_listNames_33 : decode c_NJ_listNames 33 = .ok (.aload_n 0, 1) := by decide +kernel
theorem d_NJ_listNames_34 : decode c_NJ_listNames 34 = .ok (.getfield 12, 3) := by decide +kernel
theorem d_NJ_listNames_37 : decode c_NJ_listNames 37 = .ok (.invokevirtual 76, 3) := by decide +kernel
theorem d_NJ_listNames_40 : decode c_NJ_listNames 40 = .ok (.if_icmp .ge 51, 3) := by decide +kernel
theorem d_NJ_listNames_43 : decode c_NJ_listNames 43 = .ok (.aload_n 0, 1) := by decide +kernel
theorem d_NJ_listNames_44 : decode c_NJ_listNames 44 = .ok (.aload_n 0, 1) := by decide +kernel
theorem d_NJ_listNames_45 : decode c_NJ_listNames 45 = .ok (.getfield 25, 3) := by decide +kernel
theorem d_NJ_listNames_48 : decode c_NJ_listNames 48 = .ok (.iload_n 1, 1) := by decide +kernel
theorem d_NJ_listNames_49 : decode c_NJ_listNames 49 = .ok (.invokevirtual 172, 3) := by decide +kernel
theorem d_NJ_listNames_52 : decode c_NJ_listNames 52 = .ok (.checkcast 140, 3) := by decide +kernel
theorem d_NJ_listNames_55 : decode c_NJ_listNames 55 = .ok (.aload_n 0, 1) := by decide +kernel
theorem d_NJ_listNames_56 : decode c_NJ_listNames 56 = .ok (.getfield 12, 3) := by decide +kernel
theorem d_NJ_listNames_59 : decode c_NJ_listNames 59 = .ok (.iload_n 2, 1) := by decide +kernel
theorem d_NJ_listNames_60 : decode c_NJ_listNames 60 = .ok (.invokevirtual 172, 3) := by decide +kernel
theorem d_NJ_listNames_63 : decode c_NJ_listNames 63 = .ok (.checkcast 80, 3) := by decide +kernel
theorem d_NJ_listNames_66 : decode c_NJ_listNames 66 = .ok (.invokevirtual 432, 3) := by decide +kernel
theorem d_NJ_listNames_69 : decode c_NJ_listNames 69 = .ok (.istore_n 3, 1) := by decide +kernel
theorem d_NJ_listNames_70 : decode c_NJ_listNames 70 = .ok (.iload_n 3, 1) := by decide +kernel
theorem d_NJ_listNames_71 : decode c_NJ_listNames 71 = .ok (.iconst (-1), 1) := by decide +kernel
theorem d_NJ_listNames_72 : decode c_NJ_listNames 72 = .ok (.if_icmp .eq 13, 3) := by decide +kernel
theorem d_NJ_listNames_75 : decode c_NJ_listNames 75 = .ok (.aload_n 0, 1) := by decide +kernel
theorem d_NJ_listNames_76 : decode c_NJ_listNames 76 = .ok (.getfield 60, 3) := by decide +kernel
theorem d_NJ_listNames_79 : decode c_NJ_listNames 79 = .ok (.iload_n 3, 1) := by decide +kernel
theorem d_NJ_listNames_80 : decode c_NJ_listNames 80 = .ok (.dup2, 1) := by decide +kernel
theorem d_NJ_listNames_81 : decode c_NJ_listNames 81 = .ok (.iaload, 1) := by decide +kernel
theorem d_NJ_listNames_82 : decode c_NJ_listNames 82 = .ok (.iconst 1, 1) := by decide +kernel
theorem d_NJ_listNames_83 : decode c_NJ_listNames 83 = .ok (.iadd, 1) := by decide +kernel
theorem d_NJ_listNames_84 : decode c_NJ_listNames 84 = .ok (.iastore, 1) := by decide +kernel
theorem d_NJ_listNames_85 : decode c_NJ_listNames 85 = .ok (.iinc 2 1, 3) := by decide +kernel
theorem d_NJ_listNames_88 : decode c_NJ_listNames 88 = .ok (.goto (-56), 3) := by decide +kernel
theorem d_NJ_listNames_91 : decode c_NJ_listNames 91 = .ok (.iinc 1 (-1), 3) := by decide +kernel
theorem d_NJ_listNames_94 : decode c_NJ_listNames 94 = .ok (.goto (-68), 3) := by decide +kernel
theorem d_NJ_listNames_97 : decode c_NJ_listNames 97 = .ok (.iconst 1, 1) := by decide +kernel
theorem d_NJ_listNames_98 : decode c_NJ_listNames 98 = .ok (.istore_n 1, 1) := by decide +kernel
theorem d_NJ_listNames_99 : decode c_NJ_listNames 99 = .ok (.iload_n 1, 1) := by decide +kernel
theorem d_NJ_listNames_100 : decode c_NJ_listNames 100 = .ok (.aload_n 0, 1) := by decide +kernel
theorem d_NJ_listNames_101 : decode c_NJ_listNames 101 = .ok (.getfield 56, 3) := by decide +kernel
theorem d_NJ_listNames_104 : decode c_NJ_listNames 104 = .ok (.getfield 234, 3) := by decide +kernel
theorem d_NJ_listNames_107 : decode c_NJ_listNames 107 = .ok (.if_icmp .gt 26, 3) := by decide +kernel
theorem d_NJ_listNames_110 : decode c_NJ_listNames 110 = .ok (.aload_n 0, 1) := by decide +kernel
theorem d_NJ_listNames_111 : decode c_NJ_listNames 111 = .ok (.getfield 60, 3) := by decide +kernel
theorem d_NJ_listNames_114 : decode c_NJ_listNames 114 = .ok (.iload_n 1, 1) := by decide +kernel
theorem d_NJ_listNames_115 : decode c_NJ_listNames 115 = .ok (.dup2, 1) := by decide +kernel
theorem d_NJ_listNames_116 : decode c_NJ_listNames 116 = .ok (.iaload, 1) := by decide +kernel
theorem d_NJ_listNames_117 : decode c_NJ_listNames 117 = .ok (.aload_n 0, 1) := by decide +kernel
theorem d_NJ_listNames_118 : decode c_NJ_listNames 118 = .ok (.getfield 60, 3) := by decide +kernel
theorem d_NJ_listNames_121 : decode c_NJ_listNames 121 = .ok (.iload_n 1, 1) := by decide +kernel
theorem d_NJ_listNames_122 : decode c_NJ_listNames 122 = .ok (.iconst 1, 1) := by decide +kernel
theorem d_NJ_listNames_123 : decode c_NJ_listNames 123 = .ok (.isub, 1) := by decide +kernel
theorem d_NJ_listNames_124 : decode c_NJ_listNames 124 = .ok (.iaload, 1) := by decide +kernel
theorem d_NJ_listNames_125 : decode c_NJ_listNames 125 = .ok (.iadd, 1) := by decide +kernel
theorem d_NJ_listNames_126 : decode c_NJ_listNames 126 = .ok (.iastore, 1) := by decide +kernel
theorem d_NJ_listNames_127 : decode c_NJ_listNames 127 = .ok (.iinc 1 1, 3) := by decide +kernel
theorem d_NJ_listNames_130 : decode c_NJ_listNames 130 = .ok (.goto (-31), 3) := by decide +kernel
theorem d_NJ_listNames_133 : decode c_NJ_listNames 133 = .ok (.aload_n 0, 1) := by decide +kernel
theorem d_NJ_listNames_134 : decode c_NJ_listNames 134 = .ok (.getfield 25, 3) := by decide +kernel
theorem d_NJ_listNames_137 : decode c_NJ_listNames 137 = .ok (.invokevirtual 76, 3) := by decide +kernel
theorem d_NJ_listNames_140 : decode c_NJ_listNames 140 = .ok (.iconst 1, 1) := by decide +kernel
theorem d_NJ_listNames_141 : decode c_NJ_listNames 141 = .ok (.isub, 1) := by decide +kernel
theorem d_NJ_listNames_142 : decode c_NJ_listNames 142 = .ok (.istore_n 1, 1) := by decide +kernel
theorem d_NJ_listNames_143 : decode c_NJ_listNames 143 = .ok (.iload_n 1, 1) := by decide +kernel
theorem d_NJ_listNames_144 : decode c_NJ_listNames 144 = .ok (.ifCond .lt 95, 3) := by decide +kernel
theorem d_NJ_listNames_147 : decode c_NJ_listNames 147 = .ok (.iconst 0, 1) := by decide +kernel
theorem d_NJ_listNames_148 : decode c_NJ_listNames 148 = .ok (.istore_n 2, 1) := by decide +kernel
theorem d_NJ_listNames_149 : decode c_NJ_listNames 149 = .ok (.iload_n 2, 1) := by decide +kernel
theorem d_NJ_listNames_150 : decode c_NJ_listNames 150 = .ok (.aload_n 0, 1) := by decide +kernel
theorem d_NJ_listNames_151 : decode c_NJ_listNames 151 = .ok (.getfield 12, 3) := by decide +kernel
theorem d_NJ_listNames_154 : decode c_NJ_listNames 154 = .ok (.invokevirtual 76, 3) := by decide +kernel
theorem d_NJ_listNames_157 : decode c_NJ_listNames 157 = .ok (.if_icmp .ge 76, 3) := by decide +kernel
theorem d_NJ_listNames_160 : decode c_NJ_listNames 160 = .ok (.aload_n 0, 1) := by decide +kernel
theorem d_NJ_listNames_161 : decode c_NJ_listNames 161 = .ok (.aload_n 0, 1) := by decide +kernel
theorem d_NJ_listNames_162 : decode c_NJ_listNames 162 = .ok (.getfield 25, 3) := by decide +kernel
theorem d_NJ_listNames_165 : decode c_NJ_listNames 165 = .ok (.iload_n 1, 1) := by decide +kernel
theorem d_NJ_listNames_166 : decode c_NJ_listNames 166 = .ok (.invokevirtual 172, 3) := by decide +kernel
theorem d_NJ_listNames_169 : decode c_NJ_listNames 169 = .ok (.checkcast 140, 3) := by decide +kernel
theorem d_NJ_listNames_172 : decode c_NJ_listNames 172 = .ok (.aload_n 0, 1) := by decide +kernel
theorem d_NJ_listNames_173 : decode c_NJ_listNames 173 = .ok (.getfield 12, 3) := by decide +kernel
theorem d_NJ_listNames_176 : decode c_NJ_listNames 176 = .ok (.iload_n 2, 1) := by decide +kernel
theorem d_NJ_listNames_177 : decode c_NJ_listNames 177 = .ok (.invokevirtual 172, 3) := by decide +kernel
theorem d_NJ_listNames_180 : decode c_NJ_listNames 180 = .ok (.checkcast 80, 3) := by decide +kernel
theorem d_NJ_listNames_183 : decode c_NJ_listNames 183 = .ok (.invokevirtual 432, 3) := by decide +kernel
theorem d_NJ_listNames_186 : decode c_NJ_listNames 186 = .ok (.istore_n 3, 1) := by decide +kernel
theorem d_NJ_listNames_187 : decode c_NJ_listNames 187 = .ok (.iload_n 3, 1) := by decide +kernel
theorem d_NJ_listNames_188 : decode c_NJ_listNames 188 = .ok (.iconst (-1), 1) := by decide +kernel
theorem d_NJ_listNames_189 : decode c_NJ_listNames 189 = .ok (.if_icmp .eq 38, 3) := by decide +kernel
theorem d_NJ_listNames_192 : decode c_NJ_listNames 192 = .ok (.aload_n 0, 1) := by decide +kernel
theorem d_NJ_listNames_193 : decode c_NJ_listNames 193 = .ok (.getfield 60, 3) := by decide +kernel
theorem d_NJ_listNames_196 : decode c_NJ_listNames 196 = .ok (.iload_n 3, 1) := by decide +kernel
theorem d_NJ_listNames_197 : decode c_NJ_listNames 197 = .ok (.dup2, 1) := by decide +kernel
theorem d_NJ_listNames_198 : decode c_NJ_listNames 198 = .ok (.iaload, 1) := by decide +kernel
theorem d_NJ_listNames_199 : decode c_NJ_listNames 199 = .ok (.iconst 1, 1) := by decide +kernel
theorem d_NJ_listNames_200 : decode c_NJ_listNames 200 = .ok (.isub, 1) := by decide +kernel
theorem d_NJ_listNames_201 : decode c_NJ_listNames 201 = .ok (.iastore, 1) := by decide +kernel
theorem d_NJ_listNames_202 : decode c_NJ_listNames 202 = .ok (.aload_n 0, 1) := by decide +kernel
theorem d_NJ_listNames_203 : decode c_NJ_listNames 203 = .ok (.getfield 63, 3) := by decide +kernel
theorem d_NJ_listNames_206 : decode c_NJ_listNames 206 = .ok (.aload_n 0, 1) := by decide +kernel
theorem d_NJ_listNames_207 : decode c_NJ_listNames 207 = .ok (.getfield 60, 3) := by decide +kernel
theorem d_NJ_listNames_210 : decode c_NJ_listNames 210 = .ok (.iload_n 3, 1) := by decide +kernel
theorem d_NJ_listNames_211 : decode c_NJ_listNames 211 = .ok (.iaload, 1) := by decide +kernel
theorem d_NJ_listNames_212 : decode c_NJ_listNames 212 = .ok (.aload_n 0, 1) := by decide +kernel
theorem d_NJ_listNames_213 : decode c_NJ_listNames 213 = .ok (.getfield 25, 3) := by decide +kernel
theorem d_NJ_listNames_216 : decode c_NJ_listNames 216 = .ok (.iload_n 1, 1) := by decide +kernel
theorem d_NJ_listNames_217 : decode c_NJ_listNames 217 = .ok (.invokevirtual 172, 3) := by decide +kernel
theorem d_NJ_listNames_220 : decode c_NJ_listNames 220 = .ok (.checkcast 140, 3) := by decide +kernel
theorem d_NJ_listNames_223 : decode c_NJ_listNames 223 = .ok (.getfield 176, 3) := by decide +kernel
theorem d_NJ_listNames_226 : decode c_NJ_listNames 226 = .ok (.iastore, 1) := by decide +kernel
theorem d_NJ_listNames_227 : decode c_NJ_listNames 227 = .ok (.iinc 2 1, 3) := by decide +kernel
theorem d_NJ_listNames_230 : decode c_NJ_listNames 230 = .ok (.goto (-81), 3) := by decide +kernel
theorem d_NJ_listNames_233 : decode c_NJ_listNames 233 = .ok (.iinc 1 (-1), 3) := by decide +kernel
theorem d_NJ_listNames_236 : decode c_NJ_listNames 236 = .ok (.goto (-93), 3) := by decide +kernel
theorem d_NJ_listNames_239 : decode c_NJ_listNames 239 = .ok (.aload_n 0, 1) := by decide +kernel
theorem d_NJ_listNames_240 : decode c_NJ_listNames 240 = .ok (.iconst 1, 1) := by decide +kernel
theorem d_NJ_listNames_241 : decode c_NJ_listNames 241 = .ok (.putfield 414, 3) := by decide +kernel
theorem d_NJ_listNames_244 : decode c_NJ_listNames 244 = .ok (.return_, 1) := by decide +kernel
abbrev c_NJ_bestName : ByteArray := prog_1_method_56_code
def y_NJ_bestName : MethodName := ⟨"NetJoins", "bestName", "(I)I"⟩
theorem ok_NJ_bestName : vOK y_NJ_bestName c_NJ_bestName 4 (some .int) 1 := ⟨kw_243, kw_242, ks_7, kw_1, by decide +kernel⟩
theorem d_NJ_bestName_0 : decode c_NJ_bestName 0 = .ok (.iconst (-1), 1) := by decide +kernel
theorem d_NJ_bestName_1 : decode c_NJ_bestName 1 = .ok (.istore_n 2, 1) := by decide +kernel
theorem d_NJ_bestName_2 : decode c_NJ_bestName 2 = .ok (.aload_n 0, 1) := by decide +kernel
theorem d_NJ_bestName_3 : decode c_NJ_bestName 3 = .ok (.getfield 60, 3) := by decide +kernel
theorem d_NJ_bestName_6 : decode c_NJ_bestName 6 = .ok (.iload_n 1, 1) := by decide +kernel
theorem d_NJ_bestName_7 : decode c_NJ_bestName 7 = .ok (.iaload, 1) := by decide +kernel
theorem d_NJ_bestName_8 : decode c_NJ_bestName 8 = .ok (.istore_n 3, 1) := by decide +kernel
theorem d_NJ_bestName_9 : decode c_NJ_bestName 9 = .ok (.iload_n 3, 1) := by decide +kernel
theorem d_NJ_bestName_10 : decode c_NJ_bestName 10 = .ok (.aload_n 0, 1) := by decide +kernel
theorem d_NJ_bestName_11 : decode c_NJ_bestName 11 = .ok (.getfield 60, 3) := by decide +kernel
theorem d_NJ_bestName_14 : decode c_NJ_bestName 14 = .ok (.iload_n 1, 1) := by decide +kernel
theorem d_NJ_bestName_15 : decode c_NJ_bestName 15 = .ok (.iconst 1, 1) := by decide +kernel
theorem d_NJ_bestName_16 : decode c_NJ_bestName 16 = .ok (.iadd, 1) := by decide +kernel
theorem d_NJ_bestName_17 : decode c_NJ_bestName 17 = .ok (.iaload, 1) := by decide +kernel
theorem d_NJ_bestName_18 : decode c_NJ_bestName 18 = .ok (.if_icmp .ge 41, 3) := by decide +kernel
theorem d_NJ_bestName_21 : decode c_NJ_bestName 21 = .ok (.iload_n 2, 1) := by decide +kernel
theorem d_NJ_bestName_22 : decode c_NJ_bestName 22 = .ok (.iconst (-1), 1) := by decide +kernel
theorem d_NJ_bestName_23 : decode c_NJ_bestName 23 = .ok (.if_icmp .eq 23, 3) := by decide +kernel
theorem d_NJ_bestName_26 : decode c_NJ_bestName 26 = .ok (.aload_n 0, 1) := by decide +kernel
theorem d_NJ_bestName_27 : decode c_NJ_bestName 27 = .ok (.getfield 37, 3) := by decide +kernel
theorem d_NJ_bestName_30 : decode c_NJ_bestName 30 = .ok (.aload_n 0, 1) := by decide +kernel
theorem d_NJ_bestName_31 : decode c_NJ_bestName 31 = .ok (.getfield 63, 3) := by decide +kernel
theorem d_NJ_bestName_34 : decode c_NJ_bestName 34 = .ok (.iload_n 3, 1) := by decide +kernel
theorem d_NJ_bestName_35 : decode c_NJ_bestName 35 = .ok (.iaload, 1) := by decide +kernel
theorem d_NJ_bestName_36 : decode c_NJ_bestName 36 = .ok (.iaload, 1) := by decide +kernel
theorem d_NJ_bestName_37 : decode c_NJ_bestName 37 = .ok (.aload_n 0, 1) := by decide +kernel
theorem d_NJ_bestName_38 : decode c_NJ_bestName 38 = .ok (.getfield 37, 3) := by decide +kernel
theorem d_NJ_bestName_41 : decode c_NJ_bestName 41 = .ok (.iload_n 2, 1) := by decide +kernel
theorem d_NJ_bestName_42 : decode c_NJ_bestName 42 = .ok (.iaload, 1) := by decide +kernel
theorem d_NJ_bestName_43 : decode c_NJ_bestName 43 = .ok (.if_icmp .le 10, 3) := by decide +kernel
theorem d_NJ_bestName_46 : decode c_NJ_bestName 46 = .ok (.aload_n 0, 1) := by decide +kernel
theorem d_NJ_bestName_47 : decode c_NJ_bestName 47 = .ok (.getfield 63, 3) := by decide +kernel
theorem d_NJ_bestName_50 : decode c_NJ_bestName 50 = .ok (.iload_n 3, 1) := by decide +kernel
theorem d_NJ_bestName_51 : decode c_NJ_bestName 51 = .ok (.iaload, 1) := by decide +kernel
theorem d_NJ_bestName_52 : decode c_NJ_bestName 52 = .ok (.istore_n 2, 1) := by decide +kernel
theorem d_NJ_bestName_53 : decode c_NJ_bestName 53 = .ok (.iinc 3 1, 3) := by decide +kernel
theorem d_NJ_bestName_56 : decode c_NJ_bestName 56 = .ok (.goto (-47), 3) := by decide +kernel
theorem d_NJ_bestName_59 : decode c_NJ_bestName 59 = .ok (.iload_n 2, 1) := by decide +kernel
theorem d_NJ_bestName_60 : decode c_NJ_bestName 60 = .ok (.ireturn, 1) := by decide +kernel
abbrev c_NJ_remark : ByteArray := prog_1_method_58_code
def y_NJ_remark : MethodName := ⟨"NetJoins", "remark", "(I)V"⟩
theorem ok_NJ_remark : vOK y_NJ_remark c_NJ_remark 2 none 1 := ⟨kw_247, kw_246, ks_8, kw_1, by decide +kernel⟩
theorem d_NJ_remark_0 : decode c_NJ_remark 0 = .ok (.aload_n 0, 1) := by decide +kernel
theorem d_NJ_remark_1 : decode c_NJ_remark 1 = .ok (.getfield 266, 3) := by decide +kernel
theorem d_NJ_remark_4 : decode c_NJ_remark 4 = .ok (.aload_n 0, 1) := by decide +kernel
theorem d_NJ_remark_5 : decode c_NJ_remark 5 = .ok (.getfield 66, 3) := by decide +kernel
theorem d_NJ_remark_8 : decode c_NJ_remark 8 = .ok (.arraylength, 1) := by decide +kernel
theorem d_NJ_remark_9 : decode c_NJ_remark 9 = .ok (.if_icmp .ge 23, 3) := by decide +kernel
theorem d_NJ_remark_12 : decode c_NJ_remark 12 = .ok (.aload_n 0, 1) := by decide +kernel
theorem d_NJ_remark_13 : decode c_NJ_remark 13 = .ok (.getfield 66, 3) := by decide +kernel
theorem d_NJ_remark_16 : decode c_NJ_remark 16 = .ok (.aload_n 0, 1) := by decide +kernel
theorem d_NJ_remark_17 : decode c_NJ_remark 17 = .ok (.getfield 266, 3) := by decide +kernel
theorem d_NJ_remark_20 : decode c_NJ_remark 20 = .ok (.iload_n 1, 1) := by decide +kernel
theorem d_NJ_remark_21 : decode c_NJ_remark 21 = .ok (.iastore, 1) := by decide +kernel
theorem d_NJ_remark_22 : decode c_NJ_remark 22 = .ok (.aload_n 0, 1) := by decide +kernel
theorem d_NJ_remark_23 : decode c_NJ_remark 23 = .ok (.dup, 1) := by decide +kernel
theorem d_NJ_remark_24 : decode c_NJ_remark 24 = .ok (.getfield 266, 3) := by decide +kernel
theorem d_NJ_remark_27 : decode c_NJ_remark 27 = .ok (.iconst 1, 1) := by decide +kernel
theorem d_NJ_remark_28 : decode c_NJ_remark 28 = .ok (.iadd, 1) := by decide +kernel
theorem d_NJ_remark_29 : decode c_NJ_remark 29 = .ok (.putfield 266, 3) := by decide +kernel
theorem d_NJ_remark_32 : decode c_NJ_remark 32 = .ok (.return_, 1) := by decide +kernel
abbrev c_NJ_remarkOtherNames : ByteArray := prog_1_method_59_code
def y_NJ_remarkOtherNames : MethodName := ⟨"NetJoins", "remarkOtherNames", "(I)V"⟩
theorem ok_NJ_remarkOtherNames : vOK y_NJ_remarkOtherNames c_NJ_remarkOtherNames 6 none 1 := ⟨kw_239, kw_238, ks_6, kw_1, by decide +kernel⟩
theorem d_NJ_remarkOtherNames_0 : decode c_NJ_remarkOtherNames 0 = .ok (.aload_n 0, 1) := by decide +kernel
theorem d_NJ_remarkOtherNames_1 : decode c_NJ_remarkOtherNames 1 = .ok (.iload_n 1, 1) := by decide +kernel
theorem d_NJ_remarkOtherNames_2 : decode c_NJ_remarkOtherNames 2 = .ok (.invokevirtual 257, 3) := by decide +kernel
theorem d_NJ_remarkOtherNames_5 : decode c_NJ_remarkOtherNames 5 = .ok (.istore_n 2, 1) := by decide +kernel
theorem d_NJ_remarkOtherNames_6 : decode c_NJ_remarkOtherNames 6 = .ok (.iconst (-1), 1) := by decide +kernel
theorem d_NJ_remarkOtherNames_7 : decode c_NJ_remarkOtherNames 7 = .ok (.istore_n 3, 1) := by decide +kernel
theorem d_NJ_remarkOtherNames_8 : decode c_NJ_remarkOtherNames 8 = .ok (.aload_n 0, 1) := by decide +kernel
theorem d_NJ_remarkOtherNames_9 : decode c_NJ_remarkOtherNames 9 = .ok (.getfield 60, 3) := by decide +kernel
theorem d_NJ_remarkOtherNames_12 : decode c_NJ_remarkOtherNames 12 = .ok (.iload_n 1, 1) := by decide +kernel
theorem d_NJ_remarkOtherNames_13 : decode c_NJ_remarkOtherNames 13 = .ok (.iaload, 1) := by decide +kernel
theorem d_NJ_remarkOtherNames_14 : decode c_NJ_remarkOtherNames 14 = .ok (.istore 4, 2) := by decide +kernel
theorem d_NJ_remarkOtherNames_16 : decode c_NJ_remarkOtherNames 16 = .ok (.iload 4, 2) := by decide +kernel
theorem d_NJ_remarkOtherNames_18 : decode c_NJ_remarkOtherNames 18 = .ok (.aload_n 0, 1) := by decide +kernel
theorem d_NJ_remarkOtherNames_19 : decode c_NJ_remarkOtherNames 19 = .ok (.getfield 60, 3) := by decide +kernel
theorem d_NJ_remarkOtherNames_22 : decode c_NJ_remarkOtherNames 22 = .ok (.iload_n 1, 1) := by decide +kernel
theorem d_NJ_remarkOtherNames_23 : decode c_NJ_remarkOtherNames 23 = .ok (.iconst 1, 1) := by decide +kernel
theorem d_NJ_remarkOtherNames_24 : decode c_NJ_remarkOtherNames 24 = .ok (.iadd, 1) := by decide +kernel
theorem d_NJ_remarkOtherNames_25 : decode c_NJ_remarkOtherNames 25 = .ok (.iaload, 1) := by decide +kernel
theorem d_NJ_remarkOtherNames_26 : decode c_NJ_remarkOtherNames 26 = .ok (.if_icmp .ge 45, 3) := by decide +kernel
theorem d_NJ_remarkOtherNames_29 : decode c_NJ_remarkOtherNames 29 = .ok (.aload_n 0, 1) := by decide +kernel
theorem d_NJ_remarkOtherNames_30 : decode c_NJ_remarkOtherNames 30 = .ok (.getfield 63, 3) := by decide +kernel
theorem d_NJ_remarkOtherNames_33 : decode c_NJ_remarkOtherNames 33 = .ok (.iload 4, 2) := by decide +kernel
theorem d_NJ_remarkOtherNames_35 : decode c_NJ_remarkOtherNames 35 = .ok (.iaload, 1) := by decide +kernel
theorem d_NJ_remarkOtherNames_36 : decode c_NJ_remarkOtherNames 36 = .ok (.istore 5, 2) := by decide +kernel
theorem d_NJ_remarkOtherNames_38 : decode c_NJ_remarkOtherNames 38 = .ok (.iload 5, 2) := by decide +kernel
theorem d_NJ_remarkOtherNames_40 : decode c_NJ_remarkOtherNames 40 = .ok (.iload_n 2, 1) := by decide +kernel
theorem d_NJ_remarkOtherNames_41 : decode c_NJ_remarkOtherNames 41 = .ok (.if_icmp .eq 21, 3) := by decide +kernel
theorem d_NJ_remarkOtherNames_44 : decode c_NJ_remarkOtherNames 44 = .ok (.iload 5, 2) := by decide +kernel
theorem d_NJ_remarkOtherNames_46 : decode c_NJ_remarkOtherNames 46 = .ok (.iload_n 3, 1) := by decide +kernel
theorem d_NJ_remarkOtherNames_47 : decode c_NJ_remarkOtherNames 47 = .ok (.if_icmp .eq 15, 3) := by decide +kernel
theorem d_NJ_remarkOtherNames_50 : decode c_NJ_remarkOtherNames 50 = .ok (.aload_n 0, 1) := by decide +kernel
theorem d_NJ_remarkOtherNames_51 : decode c_NJ_remarkOtherNames 51 = .ok (.sipush 1000, 3) := by decide +kernel
theorem d_NJ_remarkOtherNames_54 : decode c_NJ_remarkOtherNames 54 = .ok (.iload_n 1, 1) := by decide +kernel
theorem d_NJ_remarkOtherNames_55 : decode c_NJ_remarkOtherNames 55 = .ok (.imul, 1) := by decide +kernel
theorem d_NJ_remarkOtherNames_56 : decode c_NJ_remarkOtherNames 56 = .ok (.iload 5, 2) := by decide +kernel
theorem d_NJ_remarkOtherNames_58 : decode c_NJ_remarkOtherNames 58 = .ok (.iadd, 1) := by decide +kernel
theorem d_NJ_remarkOtherNames_59 : decode c_NJ_remarkOtherNames 59 = .ok (.invokevirtual 443, 3) := by decide +kernel
theorem d_NJ_remarkOtherNames_62 : decode c_NJ_remarkOtherNames 62 = .ok (.iload 5, 2) := by decide +kernel
theorem d_NJ_remarkOtherNames_64 : decode c_NJ_remarkOtherNames 64 = .ok (.istore_n 3, 1) := by decide +kernel
theorem d_NJ_remarkOtherNames_65 : decode c_NJ_remarkOtherNames 65 = .ok (.iinc 4 1, 3) := by decide +kernel
theorem d_NJ_remarkOtherNames_68 : decode c_NJ_remarkOtherNames 68 = .ok (.goto (-52), 3) := by decide +kernel
theorem d_NJ_remarkOtherNames_71 : decode c_NJ_remarkOtherNames 71 = .ok (.return_, 1) := by decide +kernel
abbrev c_NJ_hasSpotAt : ByteArray := prog_1_method_25_code
def y_NJ_hasSpotAt : MethodName := ⟨"NetJoins", "hasSpotAt", "(Ljava/util/ArrayList;IJJ)Z"⟩
theorem ok_NJ_hasSpotAt : sOK y_NJ_hasSpotAt c_NJ_hasSpotAt 7 (some .boolean) 4 := ⟨kw_254, kw_253, kw_1, by decide +kernel⟩
theorem d_NJ_hasSpotAt_0 : decode c_NJ_hasSpotAt 0 = .ok (.iconst 0, 1) := by decide +kernel
theorem d_NJ_hasSpotAt_1 : decode c_NJ_hasSpotAt 1 = .ok (.istore 6, 2) := by decide +kernel
theorem d_NJ_hasSpotAt_3 : decode c_NJ_hasSpotAt 3 = .ok (.iload 6, 2) := by decide +kernel
theorem d_NJ_hasSpotAt_5 : decode c_NJ_hasSpotAt 5 = .ok (.aload_n 0, 1) := by decide +kernel
theorem d_NJ_hasSpotAt_6 : decode c_NJ_hasSpotAt 6 = .ok (.invokevirtual 76, 3) := by decide +kernel
theorem d_NJ_hasSpotAt_9 : decode c_NJ_hasSpotAt 9 = .ok (.if_icmp .ge 30, 3) := by decide +kernel
theorem d_NJ_hasSpotAt_12 : decode c_NJ_hasSpotAt 12 = .ok (.aload_n 0, 1) := by decide +kernel
theorem d_NJ_hasSpotAt_13 : decode c_NJ_hasSpotAt 13 = .ok (.iload 6, 2) := by decide +kernel
theorem d_NJ_hasSpotAt_15 : decode c_NJ_hasSpotAt 15 = .ok (.invokevirtual 172, 3) := by decide +kernel
theorem d_NJ_hasSpotAt_18 : decode c_NJ_hasSpotAt 18 = .ok (.checkcast 140, 3) := by decide +kernel
theorem d_NJ_hasSpotAt_21 : decode c_NJ_hasSpotAt 21 = .ok (.iload_n 1, 1) := by decide +kernel
theorem d_NJ_hasSpotAt_22 : decode c_NJ_hasSpotAt 22 = .ok (.lload_n 2, 1) := by decide +kernel
theorem d_NJ_hasSpotAt_23 : decode c_NJ_hasSpotAt 23 = .ok (.lload 4, 2) := by decide +kernel
theorem d_NJ_hasSpotAt_25 : decode c_NJ_hasSpotAt 25 = .ok (.invokevirtual 303, 3) := by decide +kernel
theorem d_NJ_hasSpotAt_28 : decode c_NJ_hasSpotAt 28 = .ok (.ifCond .eq 5, 3) := by decide +kernel
theorem d_NJ_hasSpotAt_31 : decode c_NJ_hasSpotAt 31 = .ok (.iconst 1, 1) := by decide +kernel
theorem d_NJ_hasSpotAt_32 : decode c_NJ_hasSpotAt 32 = .ok (.ireturn, 1) := by decide +kernel
theorem d_NJ_hasSpotAt_33 : decode c_NJ_hasSpotAt 33 = .ok (.iinc 6 1, 3) := by decide +kernel
theorem d_NJ_hasSpotAt_36 : decode c_NJ_hasSpotAt 36 = .ok (.goto (-33), 3) := by decide +kernel
theorem d_NJ_hasSpotAt_39 : decode c_NJ_hasSpotAt 39 = .ok (.iconst 0, 1) := by decide +kernel
theorem d_NJ_hasSpotAt_40 : decode c_NJ_hasSpotAt 40 = .ok (.ireturn, 1) := by decide +kernel
abbrev c_NJ_isLoose : ByteArray := prog_1_method_60_code
def y_NJ_isLoose : MethodName := ⟨"NetJoins", "isLoose", "(LNetJoins$Spot;)Z"⟩
theorem ok_NJ_isLoose : vOK y_NJ_isLoose c_NJ_isLoose 3 (some .boolean) 1 := ⟨kw_251, kw_250, ks_9, kw_1, by decide +kernel⟩
theorem d_NJ_isLoose_0 : decode c_NJ_isLoose 0 = .ok (.aload_n 0, 1) := by decide +kernel
theorem d_NJ_isLoose_1 : decode c_NJ_isLoose 1 = .ok (.getfield 28, 3) := by decide +kernel
theorem d_NJ_isLoose_4 : decode c_NJ_isLoose 4 = .ok (.aload_n 1, 1) := by decide +kernel
theorem d_NJ_isLoose_5 : decode c_NJ_isLoose 5 = .ok (.getfield 237, 3) := by decide +kernel
theorem d_NJ_isLoose_8 : decode c_NJ_isLoose 8 = .ok (.aload_n 1, 1) := by decide +kernel
theorem d_NJ_isLoose_9 : decode c_NJ_isLoose 9 = .ok (.getfield 352, 3) := by decide +kernel
theorem d_NJ_isLoose_12 : decode c_NJ_isLoose 12 = .ok (.aload_n 1, 1) := by decide +kernel
theorem d_NJ_isLoose_13 : decode c_NJ_isLoose 13 = .ok (.getfield 356, 3) := by decide +kernel
theorem d_NJ_isLoose_16 : decode c_NJ_isLoose 16 = .ok (.invokestatic 136, 3) := by decide +kernel
theorem d_NJ_isLoose_19 : decode c_NJ_isLoose 19 = .ok (.ifCond .eq 5, 3) := by decide +kernel
theorem d_NJ_isLoose_22 : decode c_NJ_isLoose 22 = .ok (.iconst 0, 1) := by decide +kernel
theorem d_NJ_isLoose_23 : decode c_NJ_isLoose 23 = .ok (.ireturn, 1) := by decide +kernel
theorem d_NJ_isLoose_24 : decode c_NJ_isLoose 24 = .ok (.iconst 0, 1) := by decide +kernel
theorem d_NJ_isLoose_25 : decode c_NJ_isLoose 25 = .ok (.istore_n 2, 1) := by decide +kernel
theorem d_NJ_isLoose_26 : decode c_NJ_isLoose 26 = .ok (.iload_n 2, 1) := by decide +kernel
theorem d_NJ_isLoose_27 : decode c_NJ_isLoose 27 = .ok (.aload_n 0, 1) := by decide +kernel
theorem d_NJ_isLoose_28 : decode c_NJ_isLoose 28 = .ok (.getfield 16, 3) := by decide +kernel
theorem d_NJ_isLoose_31 : decode c_NJ_isLoose 31 = .ok (.invokevirtual 76, 3) := by decide +kernel
theorem d_NJ_isLoose_34 : decode c_NJ_isLoose 34 = .ok (.if_icmp .ge 29, 3) := by decide +kernel
theorem d_NJ_isLoose_37 : decode c_NJ_isLoose 37 = .ok (.aload_n 0, 1) := by decide +kernel
theorem d_NJ_isLoose_38 : decode c_NJ_isLoose 38 = .ok (.getfield 16, 3) := by decide +kernel
theorem d_NJ_isLoose_41 : decode c_NJ_isLoose 41 = .ok (.iload_n 2, 1) := by decide +kernel
theorem d_NJ_isLoose_42 : decode c_NJ_isLoose 42 = .ok (.invokevirtual 172, 3) := by decide +kernel
theorem d_NJ_isLoose_45 : decode c_NJ_isLoose 45 = .ok (.checkcast 117, 3) := by decide +kernel
theorem d_NJ_isLoose_48 : decode c_NJ_isLoose 48 = .ok (.aload_n 1, 1) := by decide +kernel
theorem d_NJ_isLoose_49 : decode c_NJ_isLoose 49 = .ok (.invokevirtual 341, 3) := by decide +kernel
theorem d_NJ_isLoose_52 : decode c_NJ_isLoose 52 = .ok (.ifCond .eq 5, 3) := by decide +kernel
theorem d_NJ_isLoose_55 : decode c_NJ_isLoose 55 = .ok (.iconst 0, 1) := by decide +kernel
theorem d_NJ_isLoose_56 : decode c_NJ_isLoose 56 = .ok (.ireturn, 1) := by decide +kernel
theorem d_NJ_isLoose_57 : decode c_NJ_isLoose 57 = .ok (.iinc 2 1, 3) := by decide +kernel
theorem d_NJ_isLoose_60 : decode c_NJ_isLoose 60 = .ok (.goto (-34), 3) := by decide +kernel
theorem d_NJ_isLoose_63 : decode c_NJ_isLoose 63 = .ok (.iconst 1, 1) := by decide +kernel
theorem d_NJ_isLoose_64 : decode c_NJ_isLoose 64 = .ok (.ireturn, 1) := by decide +kernel
abbrev c_NJ_copiesOf : ByteArray := prog_1_method_30_code
def y_NJ_copiesOf : MethodName := ⟨"NetJoins", "copiesOf", "(I)I"⟩
theorem ok_NJ_copiesOf : vOK y_NJ_copiesOf c_NJ_copiesOf 2 (some .int) 1 := ⟨kw_282, kw_281, ks_11, kw_1, by decide +kernel⟩
theorem d_NJ_copiesOf_0 : decode c_NJ_copiesOf 0 = .ok (.iload_n 1, 1) := by decide +kernel
theorem d_NJ_copiesOf_1 : decode c_NJ_copiesOf 1 = .ok (.ifCond .lt 31, 3) := by decide +kernel
theorem d_NJ_copiesOf_4 : decode c_NJ_copiesOf 4 = .ok (.iload_n 1, 1) := by decide +kernel
theorem d_NJ_copiesOf_5 : decode c_NJ_copiesOf 5 = .ok (.aload_n 0, 1) := by decide +kernel
theorem d_NJ_copiesOf_6 : decode c_NJ_copiesOf 6 = .ok (.getfield 12, 3) := by decide +kernel
theorem d_NJ_copiesOf_9 : decode c_NJ_copiesOf 9 = .ok (.invokevirtual 76, 3) := by decide +kernel
theorem d_NJ_copiesOf_12 : decode c_NJ_copiesOf 12 = .ok (.if_icmp .ge 20, 3) := by decide +kernel
theorem d_NJ_copiesOf_15 : decode c_NJ_copiesOf 15 = .ok (.aload_n 0, 1) := by decide +kernel
theorem d_NJ_copiesOf_16 : decode c_NJ_copiesOf 16 = .ok (.getfield 12, 3) := by decide +kernel
theorem d_NJ_copiesOf_19 : decode c_NJ_copiesOf 19 = .ok (.iload_n 1, 1) := by decide +kernel
theorem d_NJ_copiesOf_20 : decode c_NJ_copiesOf 20 = .ok (.invokevirtual 172, 3) := by decide +kernel
theorem d_NJ_copiesOf_23 : decode c_NJ_copiesOf 23 = .ok (.checkcast 80, 3) := by decide +kernel
theorem d_NJ_copiesOf_26 : decode c_NJ_copiesOf 26 = .ok (.getfield 322, 3) := by decide +kernel
theorem d_NJ_copiesOf_29 : decode c_NJ_copiesOf 29 = .ok (.goto 4, 3) := by decide +kernel
theorem d_NJ_copiesOf_32 : decode c_NJ_copiesOf 32 = .ok (.iconst 0, 1) := by decide +kernel
theorem d_NJ_copiesOf_33 : decode c_NJ_copiesOf 33 = .ok (.ireturn, 1) := by decide +kernel
abbrev c_NJ_pinNode : ByteArray := prog_1_method_38_code
def y_NJ_pinNode : MethodName := ⟨"NetJoins", "pinNode", "(II)I"⟩
theorem ok_NJ_pinNode : sOK y_NJ_pinNode c_NJ_pinNode 2 (some .int) 2 := ⟨kw_285, kw_284, kw_1, by decide +kernel⟩
theorem d_NJ_pinNode_0 : decode c_NJ_pinNode 0 = .ok (.iload_n 0, 1) := by decide +kernel
theorem d_NJ_pinNode_1 : decode c_NJ_pinNode 1 = .ok (.bipush 16, 2) := by decide +kernel
theorem d_NJ_pinNode_3 : decode c_NJ_pinNode 3 = .ok (.imul, 1) := by decide +kernel
theorem d_NJ_pinNode_4 : decode c_NJ_pinNode 4 = .ok (.iload_n 1, 1) := by decide +kernel
theorem d_NJ_pinNode_5 : decode c_NJ_pinNode 5 = .ok (.iadd, 1) := by decide +kernel
theorem d_NJ_pinNode_6 : decode c_NJ_pinNode 6 = .ok (.ireturn, 1) := by decide +kernel
abbrev c_NJ_isJoinedToAnother : ByteArray := prog_1_method_61_code
def y_NJ_isJoinedToAnother : MethodName := ⟨"NetJoins", "isJoinedToAnother", "(I)Z"⟩
theorem ok_NJ_isJoinedToAnother : vOK y_NJ_isJoinedToAnother c_NJ_isJoinedToAnother 4 (some .boolean) 1 := ⟨kw_278, kw_277, ks_10, kw_1, by decide +kernel⟩
theorem d_NJ_isJoinedToAnother_0 : decode c_NJ_isJoinedToAnother 0 = .ok (.aload_n 0, 1) := by decide +kernel
theorem d_NJ_isJoinedToAnother_1 : decode c_NJ_isJoinedToAnother 1 = .ok (.aload_n 0, 1) := by decide +kernel
theorem d_NJ_isJoinedToAnother_2 : decode c_NJ_isJoinedToAnother 2 = .ok (.getfield 28, 3) := by decide +kernel
theorem d_NJ_isJoinedToAnother_5 : decode c_NJ_isJoinedToAnother 5 = .ok (.iload_n 1, 1) := by decide +kernel
theorem d_NJ_isJoinedToAnother_6 : decode c_NJ_isJoinedToAnother 6 = .ok (.invokevirtual 172, 3) := by decide +kernel
theorem d_NJ_isJoinedToAnother_9 : decode c_NJ_isJoinedToAnother 9 = .ok (.checkcast 140, 3) := by decide +kernel
theorem d_NJ_isJoinedToAnother_12 : decode c_NJ_isJoinedToAnother 12 = .ok (.getfield 237, 3) := by decide +kernel
theorem d_NJ_isJoinedToAnother_15 : decode c_NJ_isJoinedToAnother 15 = .ok (.invokevirtual 240, 3) := by decide +kernel
theorem d_NJ_isJoinedToAnother_18 : decode c_NJ_isJoinedToAnother 18 = .ok (.istore_n 2, 1) := by decide +kernel
theorem d_NJ_isJoinedToAnother_19 : decode c_NJ_isJoinedToAnother 19 = .ok (.iconst 0, 1) := by decide +kernel
theorem d_NJ_isJoinedToAnother_20 : decode c_NJ_isJoinedToAnother 20 = .ok (.istore_n 3, 1) := by decide +kernel
theorem d_NJ_isJoinedToAnother_21 : decode c_NJ_isJoinedToAnother 21 = .ok (.iload_n 3, 1) := by decide +kernel
theorem d_NJ_isJoinedToAnother_22 : decode c_NJ_isJoinedToAnother 22 = .ok (.iload_n 2, 1) := by decide +kernel
theorem d_NJ_isJoinedToAnother_23 : decode c_NJ_isJoinedToAnother 23 = .ok (.if_icmp .ge 36, 3) := by decide +kernel
theorem d_NJ_isJoinedToAnother_26 : decode c_NJ_isJoinedToAnother 26 = .ok (.aload_n 0, 1) := by decide +kernel
theorem d_NJ_isJoinedToAnother_27 : decode c_NJ_isJoinedToAnother 27 = .ok (.getfield 56, 3) := by decide +kernel
theorem d_NJ_isJoinedToAnother_30 : decode c_NJ_isJoinedToAnother 30 = .ok (.getfield 450, 3) := by decide +kernel
theorem d_NJ_isJoinedToAnother_33 : decode c_NJ_isJoinedToAnother 33 = .ok (.aload_n 0, 1) := by decide +kernel
theorem d_NJ_isJoinedToAnother_34 : decode c_NJ_isJoinedToAnother 34 = .ok (.getfield 56, 3) := by decide +kernel
theorem d_NJ_isJoinedToAnother_37 : decode c_NJ_isJoinedToAnother 37 = .ok (.getfield 246, 3) := by decide +kernel
theorem d_NJ_isJoinedToAnother_40 : decode c_NJ_isJoinedToAnother 40 = .ok (.iload_n 1, 1) := by decide +kernel
theorem d_NJ_isJoinedToAnother_41 : decode c_NJ_isJoinedToAnother 41 = .ok (.iload_n 3, 1) := by decide +kernel
theorem d_NJ_isJoinedToAnother_42 : decode c_NJ_isJoinedToAnother 42 = .ok (.invokestatic 249, 3) := by decide +kernel
theorem d_NJ_isJoinedToAnother_45 : decode c_NJ_isJoinedToAnother 45 = .ok (.iaload, 1) := by decide +kernel
theorem d_NJ_isJoinedToAnother_46 : decode c_NJ_isJoinedToAnother 46 = .ok (.iaload, 1) := by decide +kernel
theorem d_NJ_isJoinedToAnother_47 : decode c_NJ_isJoinedToAnother 47 = .ok (.iconst 1, 1) := by decide +kernel
theorem d_NJ_isJoinedToAnother_48 : decode c_NJ_isJoinedToAnother 48 = .ok (.if_icmp .le 5, 3) := by decide +kernel
theorem d_NJ_isJoinedToAnother_51 : decode c_NJ_isJoinedToAnother 51 = .ok (.iconst 1, 1) := by decide +kernel
theorem d_NJ_isJoinedToAnother_52 : decode c_NJ_isJoinedToAnother 52 = .ok (.ireturn, 1) := by decide +kernel
theorem d_NJ_isJoinedToAnother_53 : decode c_NJ_isJoinedToAnother 53 = .ok (.iinc 3 1, 3) := by decide +kernel
theorem d_NJ_isJoinedToAnother_56 : decode c_NJ_isJoinedToAnother 56 = .ok (.goto (-35), 3) := by decide +kernel
theorem d_NJ_isJoinedToAnother_59 : decode c_NJ_isJoinedToAnother 59 = .ok (.iconst 0, 1) := by decide +kernel
theorem d_NJ_isJoinedToAnother_60 : decode c_NJ_isJoinedToAnother 60 = .ok (.ireturn, 1) := by decide +kernel
abbrev c_NJ_listRemarks : ByteArray := prog_1_method_57_code
def y_NJ_listRemarks : MethodName := ⟨"NetJoins", "listRemarks", "()V"⟩
theorem ok_NJ_listRemarks : vOK y_NJ_listRemarks c_NJ_listRemarks 2 none 0 := ⟨kw_186, kw_185, ks_1, kw_1, by decide +kernel⟩
theorem d_NJ_listRemarks_0 : decode c_NJ_listRemarks 0 = .ok (.aload_n 0, 1) := by decide +kernel
theorem d_NJ_listRemarks_1 : decode c_NJ_listRemarks 1 = .ok (.getfield 210, 3) := by decide +kernel
theorem d_NJ_listRemarks_4 : decode c_NJ_listRemarks 4 = .ok (.ifCond .eq 4, 3) := by decide +kernel
theorem d_NJ_listRemarks_7 : decode c_NJ_listRemarks 7 = .ok (.return_, 1) := by decide +kernel
theorem d_NJ_listRemarks_8 : decode c_NJ_listRemarks 8 = .ok (.aload_n 0, 1) := by decide +kernel
theorem d_NJ_listRemarks_9 : decode c_NJ_listRemarks 9 = .ok (.invokevirtual 254, 3) := by decide +kernel
theorem d_NJ_listRemarks_12 : decode c_NJ_listRemarks 12 = .ok (.aload_n 0, 1) := by decide +kernel
theorem d_NJ_listRemarks_13 : decode c_NJ_listRemarks 13 = .ok (.iconst 0, 1) := by decide +kernel
theorem d_NJ_listRemarks_14 : decode c_NJ_listRemarks 14 = .ok (.putfield 266, 3) := by decide +kernel
theorem d_NJ_listRemarks_17 : decode c_NJ_listRemarks 17 = .ok (.iconst 0, 1) := by decide +kernel
theorem d_NJ_listRemarks_18 : decode c_NJ_listRemarks 18 = .ok (.istore_n 1, 1) := by decide +kernel
theorem d_NJ_listRemarks_19 : decode c_NJ_listRemarks 19 = .ok (.iload_n 1, 1) := by decide +kernel
theorem d_NJ_listRemarks_20 : decode c_NJ_listRemarks 20 = .ok (.aload_n 0, 1) := by decide +kernel
theorem d_NJ_listRemarks_21 : decode c_NJ_listRemarks 21 = .ok (.getfield 56, 3) := by decide +kernel
theorem d_NJ_listRemarks_24 : decode c_NJ_listRemarks 24 = .ok (.getfield 234, 3) := by decide +kernel
theorem d_NJ_listRemarks_27 : decode c_NJ_listRemarks 27 = .ok (.if_icmp .ge 14, 3) := by decide +kernel
theorem d_NJ_listRemarks_30 : decode c_NJ_listRemarks 30 = .ok (.aload_n 0, 1) := by decide +kernel
theorem d_NJ_listRemarks_31 : decode c_NJ_listRemarks 31 = .ok (.iload_n 1, 1) := by decide +kernel
theorem d_NJ_listRemarks_32 : decode c_NJ_listRemarks 32 = .ok (.invokevirtual 436, 3) := by decide +kernel
theorem d_NJ_listRemarks_35 : decode c_NJ_listRemarks 35 = .ok (.iinc 1 1, 3) := by decide +kernel
theorem d_NJ_listRemarks_38 : decode c_NJ_listRemarks 38 = .ok (.goto (-19), 3) := by decide +kernel
theorem d_NJ_listRemarks_41 : decode c_NJ_listRemarks 41 = .ok (.iconst 0, 1) := by decide +kernel
theorem d_NJ_listRemarks_42 : decode c_NJ_listRemarks 42 = .ok (.istore_n 1, 1) := by decide +kernel
theorem d_NJ_listRemarks_43 : decode c_NJ_listRemarks 43 = .ok (.iload_n 1, 1) := by decide +kernel
theorem d_NJ_listRemarks_44 : decode c_NJ_listRemarks 44 = .ok (.aload_n 0, 1) := by decide +kernel
theorem d_NJ_listRemarks_45 : decode c_NJ_listRemarks 45 = .ok (.getfield 22, 3) := by decide +kernel
theorem d_NJ_listRemarks_48 : decode c_NJ_listRemarks 48 = .ok (.invokevirtual 76, 3) := by decide +kernel
theorem d_NJ_listRemarks_51 : decode c_NJ_listRemarks 51 = .ok (.if_icmp .ge 36, 3) := by decide +kernel
theorem d_NJ_listRemarks_54 : decode c_NJ_listRemarks 54 = .ok (.aload_n 0, 1) := by decide +kernel
theorem d_NJ_listRemarks_55 : decode c_NJ_listRemarks 55 = .ok (.aload_n 0, 1) := by decide +kernel
theorem d_NJ_listRemarks_56 : decode c_NJ_listRemarks 56 = .ok (.getfield 22, 3) := by decide +kernel
theorem d_NJ_listRemarks_59 : decode c_NJ_listRemarks 59 = .ok (.iload_n 1, 1) := by decide +kernel
theorem d_NJ_listRemarks_60 : decode c_NJ_listRemarks 60 = .ok (.invokevirtual 172, 3) := by decide +kernel
theorem d_NJ_listRemarks_63 : decode c_NJ_listRemarks 63 = .ok (.checkcast 140, 3) := by decide +kernel
theorem d_NJ_listRemarks_66 : decode c_NJ_listRemarks 66 = .ok (.invokevirtual 439, 3) := by decide +kernel
theorem d_NJ_listRemarks_69 : decode c_NJ_listRemarks 69 = .ok (.ifCond .eq 12, 3) := by decide +kernel
theorem d_NJ_listRemarks_72 : decode c_NJ_listRemarks 72 = .ok (.aload_n 0, 1) := by decide +kernel
theorem d_NJ_listRemarks_73 : decode c_NJ_listRemarks 73 = .ok (.ldc_w 442, 3) := by decide +kernel
theorem d_NJ_listRemarks_76 : decode c_NJ_listRemarks 76 = .ok (.iload_n 1, 1) := by decide +kernel
theorem d_NJ_listRemarks_77 : decode c_NJ_listRemarks 77 = .ok (.iadd, 1) := by decide +kernel
theorem d_NJ_listRemarks_78 : decode c_NJ_listRemarks 78 = .ok (.invokevirtual 443, 3) := by decide +kernel
theorem d_NJ_listRemarks_81 : decode c_NJ_listRemarks 81 = .ok (.iinc 1 1, 3) := by decide +kernel
theorem d_NJ_listRemarks_84 : decode c_NJ_listRemarks 84 = .ok (.goto (-41), 3) := by decide +kernel
theorem d_NJ_listRemarks_87 : decode c_NJ_listRemarks 87 = .ok (.iconst 0, 1) := by decide +kernel
theorem d_NJ_listRemarks_88 : decode c_NJ_listRemarks 88 = .ok (.istore_n 1, 1) := by decide +kernel
theorem d_NJ_listRemarks_89 : decode c_NJ_listRemarks 89 = .ok (.iload_n 1, 1) := by decide +kernel
theorem d_NJ_listRemarks_90 : decode c_NJ_listRemarks 90 = .ok (.aload_n 0, 1) := by decide +kernel
theorem d_NJ_listRemarks_91 : decode c_NJ_listRemarks 91 = .ok (.getfield 28, 3) := by decide +kernel
theorem d_NJ_listRemarks_94 : decode c_NJ_listRemarks 94 = .ok (.invokevirtual 76, 3) := by decide +kernel
theorem d_NJ_listRemarks_97 : decode c_NJ_listRemarks 97 = .ok (.if_icmp .ge 43, 3) := by decide +kernel
theorem d_NJ_listRemarks_100 : decode c_NJ_listRemarks 100 = .ok (.aload_n 0, 1) := by decide +kernel
theorem d_NJ_listRemarks_101 : decode c_NJ_listRemarks 101 = .ok (.getfield 28, 3) := by decide +kernel
theorem d_NJ_listRemarks_104 : decode c_NJ_listRemarks 104 = .ok (.iload_n 1, 1) := by decide +kernel
theorem d_NJ_listRemarks_105 : decode c_NJ_listRemarks 105 = .ok (.invokevirtual 172, 3) := by decide +kernel
theorem d_NJ_listRemarks_108 : decode c_NJ_listRemarks 108 = .ok (.checkcast 140, 3) := by decide +kernel
theorem d_NJ_listRemarks_111 : decode c_NJ_listRemarks 111 = .ok (.getfield 231, 3) := by decide +kernel
theorem d_NJ_listRemarks_114 : decode c_NJ_listRemarks 114 = .ok (.ifCond .eq 20, 3) := by decide +kernel
theorem d_NJ_listRemarks_117 : decode c_NJ_listRemarks 117 = .ok (.aload_n 0, 1) := by decide +kernel
theorem d_NJ_listRemarks_118 : decode c_NJ_listRemarks 118 = .ok (.iload_n 1, 1) := by decide +kernel
theorem d_NJ_listRemarks_119 : decode c_NJ_listRemarks 119 = .ok (.invokevirtual 446, 3) := by decide +kernel
theorem d_NJ_listRemarks_122 : decode c_NJ_listRemarks 122 = .ok (.ifCond .eq 12, 3) := by decide +kernel
theorem d_NJ_listRemarks_125 : decode c_NJ_listRemarks 125 = .ok (.aload_n 0, 1) := by decide +kernel
theorem d_NJ_listRemarks_126 : decode c_NJ_listRemarks 126 = .ok (.ldc_w 449, 3) := by decide +kernel
theorem d_NJ_listRemarks_129 : decode c_NJ_listRemarks 129 = .ok (.iload_n 1, 1) := by decide +kernel
theorem d_NJ_listRemarks_130 : decode c_NJ_listRemarks 130 = .ok (.iadd, 1) := by decide +kernel
theorem d_NJ_listRemarks_131 : decode c_NJ_listRemarks 131 = .ok (.invokevirtual 443, 3) := by decide +kernel
theorem d_NJ_listRemarks_134 : decode c_NJ_listRemarks 134 = .ok (.iinc 1 1, 3) := by decide +kernel
theorem d_NJ_listRemarks_137 : decode c_NJ_listRemarks 137 = .ok (.goto (-48), 3) := by decide +kernel
theorem d_NJ_listRemarks_140 : decode c_NJ_listRemarks 140 = .ok (.aload_n 0, 1) := by decide +kernel
theorem d_NJ_listRemarks_141 : decode c_NJ_listRemarks 141 = .ok (.iconst 1, 1) := by decide +kernel
theorem d_NJ_listRemarks_142 : decode c_NJ_listRemarks 142 = .ok (.putfield 210, 3) := by decide +kernel
theorem d_NJ_listRemarks_145 : decode c_NJ_listRemarks 145 = .ok (.return_, 1) := by decide +kernel
abbrev c_NJ_told : ByteArray := prog_1_method_15_code
def y_NJ_told : MethodName := ⟨"NetJoins", "told", "(I)I"⟩
theorem ok_NJ_told : vOK y_NJ_told c_NJ_told 2 (some .int) 1 := ⟨kw_182, kw_180, kw_181, kw_1, by decide +kernel⟩
theorem d_NJ_told_0 : decode c_NJ_told 0 = .ok (.aload_n 0, 1) := by decide +kernel
theorem d_NJ_told_1 : decode c_NJ_told 1 = .ok (.invokevirtual 263, 3) := by decide +kernel
theorem d_NJ_told_4 : decode c_NJ_told 4 = .ok (.iload_n 1, 1) := by decide +kernel
theorem d_NJ_told_5 : decode c_NJ_told 5 = .ok (.ifCond .lt 20, 3) := by decide +kernel
theorem d_NJ_told_8 : decode c_NJ_told 8 = .ok (.iload_n 1, 1) := by decide +kernel
theorem d_NJ_told_9 : decode c_NJ_told 9 = .ok (.aload_n 0, 1) := by decide +kernel
theorem d_NJ_told_10 : decode c_NJ_told 10 = .ok (.getfield 266, 3) := by decide +kernel
theorem d_NJ_told_13 : decode c_NJ_told 13 = .ok (.if_icmp .ge 12, 3) := by decide +kernel
theorem d_NJ_told_16 : decode c_NJ_told 16 = .ok (.aload_n 0, 1) := by decide +kernel
theorem d_NJ_told_17 : decode c_NJ_told 17 = .ok (.getfield 66, 3) := by decide +kernel
theorem d_NJ_told_20 : decode c_NJ_told 20 = .ok (.iload_n 1, 1) := by decide +kernel
theorem d_NJ_told_21 : decode c_NJ_told 21 = .ok (.iaload, 1) := by decide +kernel
theorem d_NJ_told_22 : decode c_NJ_told 22 = .ok (.goto 4, 3) := by decide +kernel
theorem d_NJ_told_25 : decode c_NJ_told 25 = .ok (.iconst (-1), 1) := by decide +kernel
theorem d_NJ_told_26 : decode c_NJ_told 26 = .ok (.ireturn, 1) := by decide +kernel
abbrev c_NJ_thingOf : ByteArray := prog_1_method_37_code
def y_NJ_thingOf : MethodName := ⟨"NetJoins", "thingOf", "(LNetJoins$Wire;)I"⟩
theorem ok_NJ_thingOf : sOK y_NJ_thingOf c_NJ_thingOf 1 (some .int) 1 := ⟨kw_325, kw_324, kw_1, by decide +kernel⟩
theorem d_NJ_thingOf_0 : decode c_NJ_thingOf 0 = .ok (.bipush 120, 2) := by decide +kernel
theorem d_NJ_thingOf_2 : decode c_NJ_thingOf 2 = .ok (.aload_n 0, 1) := by decide +kernel
theorem d_NJ_thingOf_3 : decode c_NJ_thingOf 3 = .ok (.getfield 325, 3) := by decide +kernel
theorem d_NJ_thingOf_6 : decode c_NJ_thingOf 6 = .ok (.iadd, 1) := by decide +kernel
theorem d_NJ_thingOf_7 : decode c_NJ_thingOf 7 = .ok (.ireturn, 1) := by decide +kernel
abbrev c_NJ_joinEnds : ByteArray := prog_1_method_31_code
def y_NJ_joinEnds : MethodName := ⟨"NetJoins", "joinEnds", "(LNetJoins$Wire;)V"⟩
theorem ok_NJ_joinEnds : vOK y_NJ_joinEnds c_NJ_joinEnds 4 none 1 := ⟨kw_313, kw_312, ks_14, kw_1, by decide +kernel⟩
theorem d_NJ_joinEnds_0 : decode c_NJ_joinEnds 0 = .ok (.iconst 0, 1) := by decide +kernel
theorem d_NJ_joinEnds_1 : decode c_NJ_joinEnds 1 = .ok (.istore_n 2, 1) := by decide +kernel
theorem d_NJ_joinEnds_2 : decode c_NJ_joinEnds 2 = .ok (.iload_n 2, 1) := by decide +kernel
theorem d_NJ_joinEnds_3 : decode c_NJ_joinEnds 3 = .ok (.aload_n 1, 1) := by decide +kernel
theorem d_NJ_joinEnds_4 : decode c_NJ_joinEnds 4 = .ok (.getfield 325, 3) := by decide +kernel
theorem d_NJ_joinEnds_7 : decode c_NJ_joinEnds 7 = .ok (.if_icmp .ge 55, 3) := by decide +kernel
theorem d_NJ_joinEnds_10 : decode c_NJ_joinEnds 10 = .ok (.aload_n 0, 1) := by decide +kernel
theorem d_NJ_joinEnds_11 : decode c_NJ_joinEnds 11 = .ok (.getfield 16, 3) := by decide +kernel
theorem d_NJ_joinEnds_14 : decode c_NJ_joinEnds 14 = .ok (.iload_n 2, 1) := by decide +kernel
theorem d_NJ_joinEnds_15 : decode c_NJ_joinEnds 15 = .ok (.invokevirtual 172, 3) := by decide +kernel
theorem d_NJ_joinEnds_18 : decode c_NJ_joinEnds 18 = .ok (.checkcast 117, 3) := by decide +kernel
theorem d_NJ_joinEnds_21 : decode c_NJ_joinEnds 21 = .ok (.astore_n 3, 1) := by decide +kernel
theorem d_NJ_joinEnds_22 : decode c_NJ_joinEnds 22 = .ok (.aload_n 3, 1) := by decide +kernel
theorem d_NJ_joinEnds_23 : decode c_NJ_joinEnds 23 = .ok (.aload_n 1, 1) := by decide +kernel
theorem d_NJ_joinEnds_24 : decode c_NJ_joinEnds 24 = .ok (.getfield 328, 3) := by decide +kernel
theorem d_NJ_joinEnds_27 : decode c_NJ_joinEnds 27 = .ok (.invokevirtual 329, 3) := by decide +kernel
theorem d_NJ_joinEnds_30 : decode c_NJ_joinEnds 30 = .ok (.ifCond .eq 26, 3) := by decide +kernel
theorem d_NJ_joinEnds_33 : decode c_NJ_joinEnds 33 = .ok (.aload_n 1, 1) := by decide +kernel
theorem d_NJ_joinEnds_34 : decode c_NJ_joinEnds 34 = .ok (.aload_n 3, 1) := by decide +kernel
theorem d_NJ_joinEnds_35 : decode c_NJ_joinEnds 35 = .ok (.invokevirtual 333, 3) := by decide +kernel
theorem d_NJ_joinEnds_38 : decode c_NJ_joinEnds 38 = .ok (.ifCond .eq 18, 3) := by decide +kernel
theorem d_NJ_joinEnds_41 : decode c_NJ_joinEnds 41 = .ok (.aload_n 0, 1) := by decide +kernel
theorem d_NJ_joinEnds_42 : decode c_NJ_joinEnds 42 = .ok (.getfield 46, 3) := by decide +kernel
theorem d_NJ_joinEnds_45 : decode c_NJ_joinEnds 45 = .ok (.aload_n 1, 1) := by decide +kernel
theorem d_NJ_joinEnds_46 : decode c_NJ_joinEnds 46 = .ok (.invokestatic 337, 3) := by decide +kernel
theorem d_NJ_joinEnds_49 : decode c_NJ_joinEnds 49 = .ok (.aload_n 3, 1) := by decide +kernel
theorem d_NJ_joinEnds_50 : decode c_NJ_joinEnds 50 = .ok (.invokestatic 337, 3) := by decide +kernel
theorem d_NJ_joinEnds_53 : decode c_NJ_joinEnds 53 = .ok (.invokevirtual 192, 3) := by decide +kernel
theorem d_NJ_joinEnds_56 : decode c_NJ_joinEnds 56 = .ok (.iinc 2 1, 3) := by decide +kernel
theorem d_NJ_joinEnds_59 : decode c_NJ_joinEnds 59 = .ok (.goto (-57), 3) := by decide +kernel
theorem d_NJ_joinEnds_62 : decode c_NJ_joinEnds 62 = .ok (.return_, 1) := by decide +kernel
abbrev c_NJ_joinJunction : ByteArray := prog_1_method_33_code
def y_NJ_joinJunction : MethodName := ⟨"NetJoins", "joinJunction", "(LNetJoins$Spot;)V"⟩
theorem ok_NJ_joinJunction : vOK y_NJ_joinJunction c_NJ_joinJunction 5 none 1 := ⟨kw_339, kw_338, ks_15, kw_1, by decide +kernel⟩
theorem d_NJ_joinJunction_0 : decode c_NJ_joinJunction 0 = .ok (.iconst (-1), 1) := by decide +kernel
theorem d_NJ_joinJunction_1 : decode c_NJ_joinJunction 1 = .ok (.istore_n 2, 1) := by decide +kernel
theorem d_NJ_joinJunction_2 : decode c_NJ_joinJunction 2 = .ok (.iconst 0, 1) := by decide +kernel
theorem d_NJ_joinJunction_3 : decode c_NJ_joinJunction 3 = .ok (.istore_n 3, 1) := by decide +kernel
theorem d_NJ_joinJunction_4 : decode c_NJ_joinJunction 4 = .ok (.iload_n 3, 1) := by decide +kernel
theorem d_NJ_joinJunction_5 : decode c_NJ_joinJunction 5 = .ok (.aload_n 0, 1) := by decide +kernel
theorem d_NJ_joinJunction_6 : decode c_NJ_joinJunction 6 = .ok (.getfield 16, 3) := by decide +kernel
theorem d_NJ_joinJunction_9 : decode c_NJ_joinJunction 9 = .ok (.invokevirtual 76, 3) := by decide +kernel
theorem d_NJ_joinJunction_12 : decode c_NJ_joinJunction 12 = .ok (.if_icmp .ge 55, 3) := by decide +kernel
theorem d_NJ_joinJunction_15 : decode c_NJ_joinJunction 15 = .ok (.aload_n 0, 1) := by decide +kernel
theorem d_NJ_joinJunction_16 : decode c_NJ_joinJunction 16 = .ok (.getfield 16, 3) := by decide +kernel
theorem d_NJ_joinJunction_19 : decode c_NJ_joinJunction 19 = .ok (.iload_n 3, 1) := by decide +kernel
theorem d_NJ_joinJunction_20 : decode c_NJ_joinJunction 20 = .ok (.invokevirtual 172, 3) := by decide +kernel
theorem d_NJ_joinJunction_23 : decode c_NJ_joinJunction 23 = .ok (.checkcast 117, 3) := by decide +kernel
theorem d_NJ_joinJunction_26 : decode c_NJ_joinJunction 26 = .ok (.astore 4, 2) := by decide +kernel
theorem d_NJ_joinJunction_28 : decode c_NJ_joinJunction 28 = .ok (.aload 4, 2) := by decide +kernel
theorem d_NJ_joinJunction_30 : decode c_NJ_joinJunction 30 = .ok (.aload_n 1, 1) := by decide +kernel
theorem d_NJ_joinJunction_31 : decode c_NJ_joinJunction 31 = .ok (.invokevirtual 341, 3) := by decide +kernel
theorem d_NJ_joinJunction_34 : decode c_NJ_joinJunction 34 = .ok (.ifCond .eq 27, 3) := by decide +kernel
theorem d_NJ_joinJunction_37 : decode c_NJ_joinJunction 37 = .ok (.iload_n 2, 1) := by decide +kernel
theorem d_NJ_joinJunction_38 : decode c_NJ_joinJunction 38 = .ok (.iconst (-1), 1) := by decide +kernel
theorem d_NJ_joinJunction_39 : decode c_NJ_joinJunction 39 = .ok (.if_icmp .ne 9, 3) := by decide +kernel
theorem d_NJ_joinJunction_42 : decode c_NJ_joinJunction 42 = .ok (.aload 4, 2) := by decide +kernel
theorem d_NJ_joinJunction_44 : decode c_NJ_joinJunction 44 = .ok (.invokestatic 337, 3) := by decide +kernel
theorem d_NJ_joinJunction_47 : decode c_NJ_joinJunction 47 = .ok (.istore_n 2, 1) := by decide +kernel
theorem d_NJ_joinJunction_48 : decode c_NJ_joinJunction 48 = .ok (.aload_n 0, 1) := by decide +kernel
theorem d_NJ_joinJunction_49 : decode c_NJ_joinJunction 49 = .ok (.getfield 46, 3) := by decide +kernel
theorem d_NJ_joinJunction_52 : decode c_NJ_joinJunction 52 = .ok (.iload_n 2, 1) := by decide +kernel
theorem d_NJ_joinJunction_53 : decode c_NJ_joinJunction 53 = .ok (.aload 4, 2) := by decide +kernel
theorem d_NJ_joinJunction_55 : decode c_NJ_joinJunction 55 = .ok (.invokestatic 337, 3) := by decide +kernel
theorem d_NJ_joinJunction_58 : decode c_NJ_joinJunction 58 = .ok (.invokevirtual 192, 3) := by decide +kernel
theorem d_NJ_joinJunction_61 : decode c_NJ_joinJunction 61 = .ok (.iinc 3 1, 3) := by decide +kernel
theorem d_NJ_joinJunction_64 : decode c_NJ_joinJunction 64 = .ok (.goto (-60), 3) := by decide +kernel
theorem d_NJ_joinJunction_67 : decode c_NJ_joinJunction 67 = .ok (.return_, 1) := by decide +kernel
abbrev c_NJ_joinSamePlace : ByteArray := prog_1_method_36_code
def y_NJ_joinSamePlace : MethodName := ⟨"NetJoins", "joinSamePlace", "(LNetJoins$Spot;Ljava/util/ArrayList;)V"⟩
theorem ok_NJ_joinSamePlace : vOK y_NJ_joinSamePlace c_NJ_joinSamePlace 5 none 2 := ⟨kw_347, kw_346, ks_17, kw_1, by decide +kernel⟩
theorem d_NJ_joinSamePlace_0 : decode c_NJ_joinSamePlace 0 = .ok (.iconst 0, 1) := by decide +kernel
theorem d_NJ_joinSamePlace_1 : decode c_NJ_joinSamePlace 1 = .ok (.istore_n 3, 1) := by decide +kernel
theorem d_NJ_joinSamePlace_2 : decode c_NJ_joinSamePlace 2 = .ok (.iload_n 3, 1) := by decide +kernel
theorem d_NJ_joinSamePlace_3 : decode c_NJ_joinSamePlace 3 = .ok (.aload_n 2, 1) := by decide +kernel
theorem d_NJ_joinSamePlace_4 : decode c_NJ_joinSamePlace 4 = .ok (.invokevirtual 76, 3) := by decide +kernel
theorem d_NJ_joinSamePlace_7 : decode c_NJ_joinSamePlace 7 = .ok (.if_icmp .ge 55, 3) := by decide +kernel
theorem d_NJ_joinSamePlace_10 : decode c_NJ_joinSamePlace 10 = .ok (.aload_n 2, 1) := by decide +kernel
theorem d_NJ_joinSamePlace_11 : decode c_NJ_joinSamePlace 11 = .ok (.iload_n 3, 1) := by decide +kernel
theorem d_NJ_joinSamePlace_12 : decode c_NJ_joinSamePlace 12 = .ok (.invokevirtual 172, 3) := by decide +kernel
theorem d_NJ_joinSamePlace_15 : decode c_NJ_joinSamePlace 15 = .ok (.checkcast 140, 3) := by decide +kernel
theorem d_NJ_joinSamePlace_18 : decode c_NJ_joinSamePlace 18 = .ok (.astore 4, 2) := by decide +kernel
theorem d_NJ_joinSamePlace_20 : decode c_NJ_joinSamePlace 20 = .ok (.aload 4, 2) := by decide +kernel
theorem d_NJ_joinSamePlace_22 : decode c_NJ_joinSamePlace 22 = .ok (.aload_n 1, 1) := by decide +kernel
theorem d_NJ_joinSamePlace_23 : decode c_NJ_joinSamePlace 23 = .ok (.getfield 237, 3) := by decide +kernel
theorem d_NJ_joinSamePlace_26 : decode c_NJ_joinSamePlace 26 = .ok (.aload_n 1, 1) := by decide +kernel
theorem d_NJ_joinSamePlace_27 : decode c_NJ_joinSamePlace 27 = .ok (.getfield 352, 3) := by decide +kernel
theorem d_NJ_joinSamePlace_30 : decode c_NJ_joinSamePlace 30 = .ok (.aload_n 1, 1) := by decide +kernel
theorem d_NJ_joinSamePlace_31 : decode c_NJ_joinSamePlace 31 = .ok (.getfield 356, 3) := by decide +kernel
theorem d_NJ_joinSamePlace_34 : decode c_NJ_joinSamePlace 34 = .ok (.invokevirtual 303, 3) := by decide +kernel
theorem d_NJ_joinSamePlace_37 : decode c_NJ_joinSamePlace 37 = .ok (.ifCond .eq 19, 3) := by decide +kernel
theorem d_NJ_joinSamePlace_40 : decode c_NJ_joinSamePlace 40 = .ok (.aload_n 0, 1) := by decide +kernel
theorem d_NJ_joinSamePlace_41 : decode c_NJ_joinSamePlace 41 = .ok (.getfield 46, 3) := by decide +kernel
theorem d_NJ_joinSamePlace_44 : decode c_NJ_joinSamePlace 44 = .ok (.aload_n 1, 1) := by decide +kernel
theorem d_NJ_joinSamePlace_45 : decode c_NJ_joinSamePlace 45 = .ok (.getfield 345, 3) := by decide +kernel
theorem d_NJ_joinSamePlace_48 : decode c_NJ_joinSamePlace 48 = .ok (.aload 4, 2) := by decide +kernel
theorem d_NJ_joinSamePlace_50 : decode c_NJ_joinSamePlace 50 = .ok (.getfield 345, 3) := by decide +kernel
theorem d_NJ_joinSamePlace_53 : decode c_NJ_joinSamePlace 53 = .ok (.invokevirtual 192, 3) := by decide +kernel
theorem d_NJ_joinSamePlace_56 : decode c_NJ_joinSamePlace 56 = .ok (.iinc 3 1, 3) := by decide +kernel
theorem d_NJ_joinSamePlace_59 : decode c_NJ_joinSamePlace 59 = .ok (.goto (-57), 3) := by decide +kernel
theorem d_NJ_joinSamePlace_62 : decode c_NJ_joinSamePlace 62 = .ok (.return_, 1) := by decide +kernel
abbrev c_NJ_joinSpot : ByteArray := prog_1_method_35_code
def y_NJ_joinSpot : MethodName := ⟨"NetJoins", "joinSpot", "(LNetJoins$Spot;)V"⟩
theorem ok_NJ_joinSpot : vOK y_NJ_joinSpot c_NJ_joinSpot 3 none 1 := ⟨kw_343, kw_342, ks_16, kw_1, by decide +kernel⟩
theorem d_NJ_joinSpot_0 : decode c_NJ_joinSpot 0 = .ok (.iconst 0, 1) := by decide +kernel
theorem d_NJ_joinSpot_1 : decode c_NJ_joinSpot 1 = .ok (.istore_n 2, 1) := by decide +kernel
theorem d_NJ_joinSpot_2 : decode c_NJ_joinSpot 2 = .ok (.iload_n 2, 1) := by decide +kernel
theorem d_NJ_joinSpot_3 : decode c_NJ_joinSpot 3 = .ok (.aload_n 0, 1) := by decide +kernel
theorem d_NJ_joinSpot_4 : decode c_NJ_joinSpot 4 = .ok (.getfield 16, 3) := by decide +kernel
theorem d_NJ_joinSpot_7 : decode c_NJ_joinSpot 7 = .ok (.invokevirtual 76, 3) := by decide +kernel
theorem d_NJ_joinSpot_10 : decode c_NJ_joinSpot 10 = .ok (.if_icmp .ge 52, 3) := by decide +kernel
theorem d_NJ_joinSpot_13 : decode c_NJ_joinSpot 13 = .ok (.aload_n 0, 1) := by decide +kernel
theorem d_NJ_joinSpot_14 : decode c_NJ_joinSpot 14 = .ok (.getfield 16, 3) := by decide +kernel
theorem d_NJ_joinSpot_17 : decode c_NJ_joinSpot 17 = .ok (.iload_n 2, 1) := by decide +kernel
theorem d_NJ_joinSpot_18 : decode c_NJ_joinSpot 18 = .ok (.invokevirtual 172, 3) := by decide +kernel
theorem d_NJ_joinSpot_21 : decode c_NJ_joinSpot 21 = .ok (.checkcast 117, 3) := by decide +kernel
theorem d_NJ_joinSpot_24 : decode c_NJ_joinSpot 24 = .ok (.aload_n 1, 1) := by decide +kernel
theorem d_NJ_joinSpot_25 : decode c_NJ_joinSpot 25 = .ok (.invokevirtual 341, 3) := by decide +kernel
theorem d_NJ_joinSpot_28 : decode c_NJ_joinSpot 28 = .ok (.ifCond .eq 28, 3) := by decide +kernel
theorem d_NJ_joinSpot_31 : decode c_NJ_joinSpot 31 = .ok (.aload_n 0, 1) := by decide +kernel
theorem d_NJ_joinSpot_32 : decode c_NJ_joinSpot 32 = .ok (.getfield 46, 3) := by decide +kernel
theorem d_NJ_joinSpot_35 : decode c_NJ_joinSpot 35 = .ok (.aload_n 0, 1) := by decide +kernel
theorem d_NJ_joinSpot_36 : decode c_NJ_joinSpot 36 = .ok (.getfield 16, 3) := by decide +kernel
theorem d_NJ_joinSpot_39 : decode c_NJ_joinSpot 39 = .ok (.iload_n 2, 1) := by decide +kernel
theorem d_NJ_joinSpot_40 : decode c_NJ_joinSpot 40 = .ok (.invokevirtual 172, 3) := by decide +kernel
theorem d_NJ_joinSpot_43 : decode c_NJ_joinSpot 43 = .ok (.checkcast 117, 3) := by decide +kernel
theorem d_NJ_joinSpot_46 : decode c_NJ_joinSpot 46 = .ok (.invokestatic 337, 3) := by decide +kernel
theorem d_NJ_joinSpot_49 : decode c_NJ_joinSpot 49 = .ok (.aload_n 1, 1) := by decide +kernel
theorem d_NJ_joinSpot_50 : decode c_NJ_joinSpot 50 = .ok (.getfield 345, 3) := by decide +kernel
theorem d_NJ_joinSpot_53 : decode c_NJ_joinSpot 53 = .ok (.invokevirtual 192, 3) := by decide +kernel
theorem d_NJ_joinSpot_56 : decode c_NJ_joinSpot 56 = .ok (.iinc 2 1, 3) := by decide +kernel
theorem d_NJ_joinSpot_59 : decode c_NJ_joinSpot 59 = .ok (.goto (-57), 3) := by decide +kernel
theorem d_NJ_joinSpot_62 : decode c_NJ_joinSpot 62 = .ok (.aload_n 0, 1) := by decide +kernel
theorem d_NJ_joinSpot_63 : decode c_NJ_joinSpot 63 = .ok (.aload_n 1, 1) := by decide +kernel
theorem d_NJ_joinSpot_64 : decode c_NJ_joinSpot 64 = .ok (.aload_n 0, 1) := by decide +kernel
theorem d_NJ_joinSpot_65 : decode c_NJ_joinSpot 65 = .ok (.getfield 22, 3) := by decide +kernel
theorem d_NJ_joinSpot_68 : decode c_NJ_joinSpot 68 = .ok (.invokevirtual 348, 3) := by decide +kernel
theorem d_NJ_joinSpot_71 : decode c_NJ_joinSpot 71 = .ok (.aload_n 0, 1) := by decide +kernel
theorem d_NJ_joinSpot_72 : decode c_NJ_joinSpot 72 = .ok (.aload_n 1, 1) := by decide +kernel
theorem d_NJ_joinSpot_73 : decode c_NJ_joinSpot 73 = .ok (.aload_n 0, 1) := by decide +kernel
theorem d_NJ_joinSpot_74 : decode c_NJ_joinSpot 74 = .ok (.getfield 28, 3) := by decide +kernel
theorem d_NJ_joinSpot_77 : decode c_NJ_joinSpot 77 = .ok (.invokevirtual 348, 3) := by decide +kernel
theorem d_NJ_joinSpot_80 : decode c_NJ_joinSpot 80 = .ok (.return_, 1) := by decide +kernel
