abbrev c_Mod_number : ByteArray := prog_10_method_21_code
def y_Mod_number : MethodName := ⟨"NetJoinsModel", "number", "()V"⟩
theorem ok_Mod_number : vOK y_Mod_number c_Mod_number 4 none 0 := ⟨kw_1307, kw_1306, ks_61, kw_8, by decide +kernel⟩
theorem d_Mod_number_0 : decode c_Mod_number 0 = .ok (.iconst 0, 1) := by decide +kernel
theorem d_Mod_number_1 : decode c_Mod_number 1 = .ok (.istore_n 1, 1) := by decide +kernel
theorem d_Mod_number_2 : decode c_Mod_number 2 = .ok (.iload_n 1, 1) := by decide +kernel
theorem d_Mod_number_3 : decode c_Mod_number 3 = .ok (.sipush 19520, 3) := by decide +kernel
theorem d_Mod_number_6 : decode c_Mod_number 6 = .ok (.if_icmp .ge 16, 3) := by decide +kernel
theorem d_Mod_number_9 : decode c_Mod_number 9 = .ok (.aload_n 0, 1) := by decide +kernel
theorem d_Mod_number_10 : decode c_Mod_number 10 = .ok (.getfield 66, 3) := by decide +kernel
theorem d_Mod_number_13 : decode c_Mod_number 13 = .ok (.iload_n 1, 1) := by decide +kernel
theorem d_Mod_number_14 : decode c_Mod_number 14 = .ok (.iconst (-1), 1) := by decide +kernel
theorem d_Mod_number_15 : decode c_Mod_number 15 = .ok (.iastore, 1) := by decide +kernel
theorem d_Mod_number_16 : decode c_Mod_number 16 = .ok (.iinc 1 1, 3) := by decide +kernel
theorem d_Mod_number_19 : decode c_Mod_number 19 = .ok (.goto (-17), 3) := by decide +kernel
theorem d_Mod_number_22 : decode c_Mod_number 22 = .ok (.iconst 0, 1) := by decide +kernel
theorem d_Mod_number_23 : decode c_Mod_number 23 = .ok (.istore_n 1, 1) := by decide +kernel
theorem d_Mod_number_24 : decode c_Mod_number 24 = .ok (.iload_n 1, 1) := by decide +kernel
theorem d_Mod_number_25 : decode c_Mod_number 25 = .ok (.sipush 960, 3) := by decide +kernel
theorem d_Mod_number_28 : decode c_Mod_number 28 = .ok (.if_icmp .ge 16, 3) := by decide +kernel
theorem d_Mod_number_31 : decode c_Mod_number 31 = .ok (.aload_n 0, 1) := by decide +kernel
theorem d_Mod_number_32 : decode c_Mod_number 32 = .ok (.getfield 69, 3) := by decide +kernel
theorem d_Mod_number_35 : decode c_Mod_number 35 = .ok (.iload_n 1, 1) := by decide +kernel
theorem d_Mod_number_36 : decode c_Mod_number 36 = .ok (.iconst (-1), 1) := by decide +kernel
theorem d_Mod_number_37 : decode c_Mod_number 37 = .ok (.iastore, 1) := by decide +kernel
theorem d_Mod_number_38 : decode c_Mod_number 38 = .ok (.iinc 1 1, 3) := by decide +kernel
theorem d_Mod_number_41 : decode c_Mod_number 41 = .ok (.goto (-17), 3) := by decide +kernel
theorem d_Mod_number_44 : decode c_Mod_number 44 = .ok (.aload_n 0, 1) := by decide +kernel
theorem d_Mod_number_45 : decode c_Mod_number 45 = .ok (.iconst 0, 1) := by decide +kernel
theorem d_Mod_number_46 : decode c_Mod_number 46 = .ok (.putfield 155, 3) := by decide +kernel
theorem d_Mod_number_49 : decode c_Mod_number 49 = .ok (.iconst 0, 1) := by decide +kernel
theorem d_Mod_number_50 : decode c_Mod_number 50 = .ok (.istore_n 1, 1) := by decide +kernel
theorem d_Mod_number_51 : decode c_Mod_number 51 = .ok (.iload_n 1, 1) := by decide +kernel
theorem d_Mod_number_52 : decode c_Mod_number 52 = .ok (.aload_n 0, 1) := by decide +kernel
theorem d_Mod_number_53 : decode c_Mod_number 53 = .ok (.getfield 121, 3) := by decide +kernel
theorem d_Mod_number_56 : decode c_Mod_number 56 = .ok (.if_icmp .ge 110, 3) := by decide +kernel
theorem d_Mod_number_59 : decode c_Mod_number 59 = .ok (.aload_n 0, 1) := by decide +kernel
theorem d_Mod_number_60 : decode c_Mod_number 60 = .ok (.getfield 42, 3) := by decide +kernel
theorem d_Mod_number_63 : decode c_Mod_number 63 = .ok (.iload_n 1, 1) := by decide +kernel
theorem d_Mod_number_64 : decode c_Mod_number 64 = .ok (.iaload, 1) := by decide +kernel
theorem d_Mod_number_65 : decode c_Mod_number 65 = .ok (.istore_n 2, 1) := by decide +kernel
theorem d_Mod_number_66 : decode c_Mod_number 66 = .ok (.iload_n 2, 1) := by decide +kernel
theorem d_Mod_number_67 : decode c_Mod_number 67 = .ok (.aload_n 0, 1) := by decide +kernel
theorem d_Mod_number_68 : decode c_Mod_number 68 = .ok (.getfield 82, 3) := by decide +kernel
theorem d_Mod_number_71 : decode c_Mod_number 71 = .ok (.if_icmp .ge 89, 3) := by decide +kernel
theorem d_Mod_number_74 : decode c_Mod_number 74 = .ok (.aload_n 0, 1) := by decide +kernel
theorem d_Mod_number_75 : decode c_Mod_number 75 = .ok (.getfield 13, 3) := by decide +kernel
theorem d_Mod_number_78 : decode c_Mod_number 78 = .ok (.iload_n 2, 1) := by decide +kernel
theorem d_Mod_number_79 : decode c_Mod_number 79 = .ok (.iaload, 1) := by decide +kernel
theorem d_Mod_number_80 : decode c_Mod_number 80 = .ok (.aload_n 0, 1) := by decide +kernel
theorem d_Mod_number_81 : decode c_Mod_number 81 = .ok (.getfield 42, 3) := by decide +kernel
theorem d_Mod_number_84 : decode c_Mod_number 84 = .ok (.iload_n 1, 1) := by decide +kernel
theorem d_Mod_number_85 : decode c_Mod_number 85 = .ok (.iaload, 1) := by decide +kernel
theorem d_Mod_number_86 : decode c_Mod_number 86 = .ok (.if_icmp .eq 6, 3) := by decide +kernel
theorem d_Mod_number_89 : decode c_Mod_number 89 = .ok (.goto 65, 3) := by decide +kernel
theorem d_Mod_number_92 : decode c_Mod_number 92 = .ok (.aload_n 0, 1) := by decide +kernel
theorem d_Mod_number_93 : decode c_Mod_number 93 = .ok (.sipush 2560, 3) := by decide +kernel
theorem d_Mod_number_96 : decode c_Mod_number 96 = .ok (.bipush 16, 2) := by decide +kernel
theorem d_Mod_number_98 : decode c_Mod_number 98 = .ok (.iload_n 1, 1) := by decide +kernel
theorem d_Mod_number_99 : decode c_Mod_number 99 = .ok (.imul, 1) := by decide +kernel
theorem d_Mod_number_100 : decode c_Mod_number 100 = .ok (.iadd, 1) := by decide +kernel
theorem d_Mod_number_101 : decode c_Mod_number 101 = .ok (.iload_n 2, 1) := by decide +kernel
theorem d_Mod_number_102 : decode c_Mod_number 102 = .ok (.iadd, 1) := by decide +kernel
theorem d_Mod_number_103 : decode c_Mod_number 103 = .ok (.invokevirtual 93, 3) := by decide +kernel
theorem d_Mod_number_106 : decode c_Mod_number 106 = .ok (.istore_n 3, 1) := by decide +kernel
theorem d_Mod_number_107 : decode c_Mod_number 107 = .ok (.aload_n 0, 1) := by decide +kernel
theorem d_Mod_number_108 : decode c_Mod_number 108 = .ok (.getfield 66, 3) := by decide +kernel
theorem d_Mod_number_111 : decode c_Mod_number 111 = .ok (.iload_n 3, 1) := by decide +kernel
theorem d_Mod_number_112 : decode c_Mod_number 112 = .ok (.iaload, 1) := by decide +kernel
theorem d_Mod_number_113 : decode c_Mod_number 113 = .ok (.iconst (-1), 1) := by decide +kernel
theorem d_Mod_number_114 : decode c_Mod_number 114 = .ok (.if_icmp .ne 23, 3) := by decide +kernel
theorem d_Mod_number_117 : decode c_Mod_number 117 = .ok (.aload_n 0, 1) := by decide +kernel
theorem d_Mod_number_118 : decode c_Mod_number 118 = .ok (.getfield 66, 3) := by decide +kernel
theorem d_Mod_number_121 : decode c_Mod_number 121 = .ok (.iload_n 3, 1) := by decide +kernel
theorem d_Mod_number_122 : decode c_Mod_number 122 = .ok (.aload_n 0, 1) := by decide +kernel
theorem d_Mod_number_123 : decode c_Mod_number 123 = .ok (.getfield 155, 3) := by decide +kernel
theorem d_Mod_number_126 : decode c_Mod_number 126 = .ok (.iastore, 1) := by decide +kernel
theorem d_Mod_number_127 : decode c_Mod_number 127 = .ok (.aload_n 0, 1) := by decide +kernel
theorem d_Mod_number_128 : decode c_Mod_number 128 = .ok (.dup, 1) := by decide +kernel
theorem d_Mod_number_129 : decode c_Mod_number 129 = .ok (.getfield 155, 3) := by decide +kernel
theorem d_Mod_number_132 : decode c_Mod_number 132 = .ok (.iconst 1, 1) := by decide +kernel
theorem d_Mod_number_133 : decode c_Mod_number 133 = .ok (.iadd, 1) := by decide +kernel
theorem d_Mod_number_134 : decode c_Mod_number 134 = .ok (.putfield 155, 3) := by decide +kernel
theorem d_Mod_number_137 : decode c_Mod_number 137 = .ok (.aload_n 0, 1) := by decide +kernel
theorem d_Mod_number_138 : decode c_Mod_number 138 = .ok (.getfield 69, 3) := by decide +kernel
theorem d_Mod_number_141 : decode c_Mod_number 141 = .ok (.bipush 16, 2) := by decide +kernel
theorem d_Mod_number_143 : decode c_Mod_number 143 = .ok (.iload_n 1, 1) := by decide +kernel
theorem d_Mod_number_144 : decode c_Mod_number 144 = .ok (.imul, 1) := by decide +kernel
theorem d_Mod_number_145 : decode c_Mod_number 145 = .ok (.iload_n 2, 1) := by decide +kernel
theorem d_Mod_number_146 : decode c_Mod_number 146 = .ok (.iadd, 1) := by decide +kernel
theorem d_Mod_number_147 : decode c_Mod_number 147 = .ok (.aload_n 0, 1) := by decide +kernel
theorem d_Mod_number_148 : decode c_Mod_number 148 = .ok (.getfield 66, 3) := by decide +kernel
theorem d_Mod_number_151 : decode c_Mod_number 151 = .ok (.iload_n 3, 1) := by decide +kernel
theorem d_Mod_number_152 : decode c_Mod_number 152 = .ok (.iaload, 1) := by decide +kernel
theorem d_Mod_number_153 : decode c_Mod_number 153 = .ok (.iastore, 1) := by decide +kernel
theorem d_Mod_number_154 : decode c_Mod_number 154 = .ok (.iinc 2 1, 3) := by decide +kernel
theorem d_Mod_number_157 : decode c_Mod_number 157 = .ok (.goto (-91), 3) := by decide +kernel
theorem d_Mod_number_160 : decode c_Mod_number 160 = .ok (.iinc 1 1, 3) := by decide +kernel
theorem d_Mod_number_163 : decode c_Mod_number 163 = .ok (.goto (-112), 3) := by decide +kernel
theorem d_Mod_number_166 : decode c_Mod_number 166 = .ok (.return_, 1) := by decide +kernel
abbrev c_Mod_wasThere : ByteArray := prog_10_method_22_code
def y_Mod_wasThere : MethodName := ⟨"NetJoinsModel", "wasThere", "(I)Z"⟩
theorem ok_Mod_wasThere : vOK y_Mod_wasThere c_Mod_wasThere 6 (some .boolean) 1 := ⟨kw_1311, kw_1310, ks_62, kw_8, by decide +kernel⟩
theorem d_Mod_wasThere_0 : decode c_Mod_wasThere 0 = .ok (.iconst 0, 1) := by decide +kernel
theorem d_Mod_wasThere_1 : decode c_Mod_wasThere 1 = .ok (.istore_n 2, 1) := by decide +kernel
theorem d_Mod_wasThere_2 : decode c_Mod_wasThere 2 = .ok (.aload_n 0, 1) := by decide +kernel
theorem d_Mod_wasThere_3 : decode c_Mod_wasThere 3 = .ok (.getfield 69, 3) := by decide +kernel
theorem d_Mod_wasThere_6 : decode c_Mod_wasThere 6 = .ok (.iload_n 2, 1) := by decide +kernel
theorem d_Mod_wasThere_7 : decode c_Mod_wasThere 7 = .ok (.iaload, 1) := by decide +kernel
theorem d_Mod_wasThere_8 : decode c_Mod_wasThere 8 = .ok (.iload_n 1, 1) := by decide +kernel
theorem d_Mod_wasThere_9 : decode c_Mod_wasThere 9 = .ok (.if_icmp .eq 9, 3) := by decide +kernel
theorem d_Mod_wasThere_12 : decode c_Mod_wasThere 12 = .ok (.iinc 2 1, 3) := by decide +kernel
theorem d_Mod_wasThere_15 : decode c_Mod_wasThere 15 = .ok (.goto (-13), 3) := by decide +kernel
theorem d_Mod_wasThere_18 : decode c_Mod_wasThere 18 = .ok (.aload_n 0, 1) := by decide +kernel
theorem d_Mod_wasThere_19 : decode c_Mod_wasThere 19 = .ok (.getfield 72, 3) := by decide +kernel
theorem d_Mod_wasThere_22 : decode c_Mod_wasThere 22 = .ok (.iload_n 2, 1) := by decide +kernel
theorem d_Mod_wasThere_23 : decode c_Mod_wasThere 23 = .ok (.iaload, 1) := by decide +kernel
theorem d_Mod_wasThere_24 : decode c_Mod_wasThere 24 = .ok (.istore_n 3, 1) := by decide +kernel
theorem d_Mod_wasThere_25 : decode c_Mod_wasThere 25 = .ok (.iload_n 3, 1) := by decide +kernel
theorem d_Mod_wasThere_26 : decode c_Mod_wasThere 26 = .ok (.iconst (-1), 1) := by decide +kernel
theorem d_Mod_wasThere_27 : decode c_Mod_wasThere 27 = .ok (.if_icmp .ne 5, 3) := by decide +kernel
theorem d_Mod_wasThere_30 : decode c_Mod_wasThere 30 = .ok (.iconst 0, 1) := by decide +kernel
theorem d_Mod_wasThere_31 : decode c_Mod_wasThere 31 = .ok (.ireturn, 1) := by decide +kernel
theorem d_Mod_wasThere_32 : decode c_Mod_wasThere 32 = .ok (.iconst 1, 1) := by decide +kernel
theorem d_Mod_wasThere_33 : decode c_Mod_wasThere 33 = .ok (.istore 4, 2) := by decide +kernel
theorem d_Mod_wasThere_35 : decode c_Mod_wasThere 35 = .ok (.iconst 0, 1) := by decide +kernel
theorem d_Mod_wasThere_36 : decode c_Mod_wasThere 36 = .ok (.istore 5, 2) := by decide +kernel
theorem d_Mod_wasThere_38 : decode c_Mod_wasThere 38 = .ok (.iload 5, 2) := by decide +kernel
theorem d_Mod_wasThere_40 : decode c_Mod_wasThere 40 = .ok (.sipush 960, 3) := by decide +kernel
theorem d_Mod_wasThere_43 : decode c_Mod_wasThere 43 = .ok (.if_icmp .ge 56, 3) := by decide +kernel
theorem d_Mod_wasThere_46 : decode c_Mod_wasThere 46 = .ok (.iload 4, 2) := by decide +kernel
theorem d_Mod_wasThere_48 : decode c_Mod_wasThere 48 = .ok (.ifCond .eq 42, 3) := by decide +kernel
theorem d_Mod_wasThere_51 : decode c_Mod_wasThere 51 = .ok (.aload_n 0, 1) := by decide +kernel
theorem d_Mod_wasThere_52 : decode c_Mod_wasThere 52 = .ok (.getfield 69, 3) := by decide +kernel
theorem d_Mod_wasThere_55 : decode c_Mod_wasThere 55 = .ok (.iload 5, 2) := by decide +kernel
theorem d_Mod_wasThere_57 : decode c_Mod_wasThere 57 = .ok (.iaload, 1) := by decide +kernel
theorem d_Mod_wasThere_58 : decode c_Mod_wasThere 58 = .ok (.iload_n 1, 1) := by decide +kernel
theorem d_Mod_wasThere_59 : decode c_Mod_wasThere 59 = .ok (.if_icmp .ne 7, 3) := by decide +kernel
theorem d_Mod_wasThere_62 : decode c_Mod_wasThere 62 = .ok (.iconst 1, 1) := by decide +kernel
theorem d_Mod_wasThere_63 : decode c_Mod_wasThere 63 = .ok (.goto 4, 3) := by decide +kernel
theorem d_Mod_wasThere_66 : decode c_Mod_wasThere 66 = .ok (.iconst 0, 1) := by decide +kernel
theorem d_Mod_wasThere_67 : decode c_Mod_wasThere 67 = .ok (.aload_n 0, 1) := by decide +kernel
theorem d_Mod_wasThere_68 : decode c_Mod_wasThere 68 = .ok (.getfield 72, 3) := by decide +kernel
theorem d_Mod_wasThere_71 : decode c_Mod_wasThere 71 = .ok (.iload 5, 2) := by decide +kernel
theorem d_Mod_wasThere_73 : decode c_Mod_wasThere 73 = .ok (.iaload, 1) := by decide +kernel
theorem d_Mod_wasThere_74 : decode c_Mod_wasThere 74 = .ok (.iload_n 3, 1) := by decide +kernel
theorem d_Mod_wasThere_75 : decode c_Mod_wasThere 75 = .ok (.if_icmp .ne 7, 3) := by decide +kernel
theorem d_Mod_wasThere_78 : decode c_Mod_wasThere 78 = .ok (.iconst 1, 1) := by decide +kernel
theorem d_Mod_wasThere_79 : decode c_Mod_wasThere 79 = .ok (.goto 4, 3) := by decide +kernel
theorem d_Mod_wasThere_82 : decode c_Mod_wasThere 82 = .ok (.iconst 0, 1) := by decide +kernel
theorem d_Mod_wasThere_83 : decode c_Mod_wasThere 83 = .ok (.if_icmp .ne 7, 3) := by decide +kernel
theorem d_Mod_wasThere_86 : decode c_Mod_wasThere 86 = .ok (.iconst 1, 1) := by decide +kernel
theorem d_Mod_wasThere_87 : decode c_Mod_wasThere 87 = .ok (.goto 4, 3) := by decide +kernel
theorem d_Mod_wasThere_90 : decode c_Mod_wasThere 90 = .ok (.iconst 0, 1) := by decide +kernel
theorem d_Mod_wasThere_91 : decode c_Mod_wasThere 91 = .ok (.istore 4, 2) := by decide +kernel
theorem d_Mod_wasThere_93 : decode c_Mod_wasThere 93 = .ok (.iinc 5 1, 3) := by decide +kernel
theorem d_Mod_wasThere_96 : decode c_Mod_wasThere 96 = .ok (.goto (-58), 3) := by decide +kernel
theorem d_Mod_wasThere_99 : decode c_Mod_wasThere 99 = .ok (.iload 4, 2) := by decide +kernel
theorem d_Mod_wasThere_101 : decode c_Mod_wasThere 101 = .ok (.ireturn, 1) := by decide +kernel
abbrev c_Mod_anew : ByteArray := prog_10_method_23_code
def y_Mod_anew : MethodName := ⟨"NetJoinsModel", "anew", "()V"⟩
theorem ok_Mod_anew : vOK y_Mod_anew c_Mod_anew 2 none 0 := ⟨kw_1251, kw_1250, ks_47, kw_8, by decide +kernel⟩
theorem d_Mod_anew_0 : decode c_Mod_anew 0 = .ok (.iconst 0, 1) := by decide +kernel
theorem d_Mod_anew_1 : decode c_Mod_anew 1 = .ok (.istore_n 1, 1) := by decide +kernel
theorem d_Mod_anew_2 : decode c_Mod_anew 2 = .ok (.iload_n 1, 1) := by decide +kernel
theorem d_Mod_anew_3 : decode c_Mod_anew 3 = .ok (.sipush 960, 3) := by decide +kernel
theorem d_Mod_anew_6 : decode c_Mod_anew 6 = .ok (.if_icmp .ge 32, 3) := by decide +kernel
theorem d_Mod_anew_9 : decode c_Mod_anew 9 = .ok (.aload_n 0, 1) := by decide +kernel
theorem d_Mod_anew_10 : decode c_Mod_anew 10 = .ok (.getfield 72, 3) := by decide +kernel
theorem d_Mod_anew_13 : decode c_Mod_anew 13 = .ok (.iload_n 1, 1) := by decide +kernel
theorem d_Mod_anew_14 : decode c_Mod_anew 14 = .ok (.aload_n 0, 1) := by decide +kernel
theorem d_Mod_anew_15 : decode c_Mod_anew 15 = .ok (.getfield 158, 3) := by decide +kernel
theorem d_Mod_anew_18 : decode c_Mod_anew 18 = .ok (.ifCond .eq 12, 3) := by decide +kernel
theorem d_Mod_anew_21 : decode c_Mod_anew 21 = .ok (.aload_n 0, 1) := by decide +kernel
theorem d_Mod_anew_22 : decode c_Mod_anew 22 = .ok (.getfield 69, 3) := by decide +kernel
theorem d_Mod_anew_25 : decode c_Mod_anew 25 = .ok (.iload_n 1, 1) := by decide +kernel
theorem d_Mod_anew_26 : decode c_Mod_anew 26 = .ok (.iaload, 1) := by decide +kernel
theorem d_Mod_anew_27 : decode c_Mod_anew 27 = .ok (.goto 4, 3) := by decide +kernel
theorem d_Mod_anew_30 : decode c_Mod_anew 30 = .ok (.iconst (-1), 1) := by decide +kernel
theorem d_Mod_anew_31 : decode c_Mod_anew 31 = .ok (.iastore, 1) := by decide +kernel
theorem d_Mod_anew_32 : decode c_Mod_anew 32 = .ok (.iinc 1 1, 3) := by decide +kernel
theorem d_Mod_anew_35 : decode c_Mod_anew 35 = .ok (.goto (-33), 3) := by decide +kernel
theorem d_Mod_anew_38 : decode c_Mod_anew 38 = .ok (.aload_n 0, 1) := by decide +kernel
theorem d_Mod_anew_39 : decode c_Mod_anew 39 = .ok (.iconst 1, 1) := by decide +kernel
theorem d_Mod_anew_40 : decode c_Mod_anew 40 = .ok (.putfield 158, 3) := by decide +kernel
theorem d_Mod_anew_43 : decode c_Mod_anew 43 = .ok (.aload_n 0, 1) := by decide +kernel
theorem d_Mod_anew_44 : decode c_Mod_anew 44 = .ok (.invokevirtual 162, 3) := by decide +kernel
theorem d_Mod_anew_47 : decode c_Mod_anew 47 = .ok (.aload_n 0, 1) := by decide +kernel
theorem d_Mod_anew_48 : decode c_Mod_anew 48 = .ok (.invokevirtual 165, 3) := by decide +kernel
theorem d_Mod_anew_51 : decode c_Mod_anew 51 = .ok (.aload_n 0, 1) := by decide +kernel
theorem d_Mod_anew_52 : decode c_Mod_anew 52 = .ok (.iconst 0, 1) := by decide +kernel
theorem d_Mod_anew_53 : decode c_Mod_anew 53 = .ok (.putfield 168, 3) := by decide +kernel
theorem d_Mod_anew_56 : decode c_Mod_anew 56 = .ok (.iconst 0, 1) := by decide +kernel
theorem d_Mod_anew_57 : decode c_Mod_anew 57 = .ok (.istore_n 1, 1) := by decide +kernel
theorem d_Mod_anew_58 : decode c_Mod_anew 58 = .ok (.iload_n 1, 1) := by decide +kernel
theorem d_Mod_anew_59 : decode c_Mod_anew 59 = .ok (.aload_n 0, 1) := by decide +kernel
theorem d_Mod_anew_60 : decode c_Mod_anew 60 = .ok (.getfield 155, 3) := by decide +kernel
theorem d_Mod_anew_63 : decode c_Mod_anew 63 = .ok (.if_icmp .ge 51, 3) := by decide +kernel
theorem d_Mod_anew_66 : decode c_Mod_anew 66 = .ok (.aload_n 0, 1) := by decide +kernel
theorem d_Mod_anew_67 : decode c_Mod_anew 67 = .ok (.getfield 75, 3) := by decide +kernel
theorem d_Mod_anew_70 : decode c_Mod_anew 70 = .ok (.iload_n 1, 1) := by decide +kernel
theorem d_Mod_anew_71 : decode c_Mod_anew 71 = .ok (.aload_n 0, 1) := by decide +kernel
theorem d_Mod_anew_72 : decode c_Mod_anew 72 = .ok (.iload_n 1, 1) := by decide +kernel
theorem d_Mod_anew_73 : decode c_Mod_anew 73 = .ok (.invokevirtual 171, 3) := by decide +kernel
theorem d_Mod_anew_76 : decode c_Mod_anew 76 = .ok (.ifCond .ne 7, 3) := by decide +kernel
theorem d_Mod_anew_79 : decode c_Mod_anew 79 = .ok (.iconst 1, 1) := by decide +kernel
theorem d_Mod_anew_80 : decode c_Mod_anew 80 = .ok (.goto 4, 3) := by decide +kernel
theorem d_Mod_anew_83 : decode c_Mod_anew 83 = .ok (.iconst 0, 1) := by decide +kernel
theorem d_Mod_anew_84 : decode c_Mod_anew 84 = .ok (.bastore, 1) := by decide +kernel
theorem d_Mod_anew_85 : decode c_Mod_anew 85 = .ok (.aload_n 0, 1) := by decide +kernel
theorem d_Mod_anew_86 : decode c_Mod_anew 86 = .ok (.dup, 1) := by decide +kernel
theorem d_Mod_anew_87 : decode c_Mod_anew 87 = .ok (.getfield 168, 3) := by decide +kernel
theorem d_Mod_anew_90 : decode c_Mod_anew 90 = .ok (.aload_n 0, 1) := by decide +kernel
theorem d_Mod_anew_91 : decode c_Mod_anew 91 = .ok (.getfield 75, 3) := by decide +kernel
theorem d_Mod_anew_94 : decode c_Mod_anew 94 = .ok (.iload_n 1, 1) := by decide +kernel
theorem d_Mod_anew_95 : decode c_Mod_anew 95 = .ok (.baload, 1) := by decide +kernel
theorem d_Mod_anew_96 : decode c_Mod_anew 96 = .ok (.ifCond .eq 7, 3) := by decide +kernel
theorem d_Mod_anew_99 : decode c_Mod_anew 99 = .ok (.iconst 1, 1) := by decide +kernel
theorem d_Mod_anew_100 : decode c_Mod_anew 100 = .ok (.goto 4, 3) := by decide +kernel
theorem d_Mod_anew_103 : decode c_Mod_anew 103 = .ok (.iconst 0, 1) := by decide +kernel
theorem d_Mod_anew_104 : decode c_Mod_anew 104 = .ok (.iadd, 1) := by decide +kernel
theorem d_Mod_anew_105 : decode c_Mod_anew 105 = .ok (.putfield 168, 3) := by decide +kernel
theorem d_Mod_anew_108 : decode c_Mod_anew 108 = .ok (.iinc 1 1, 3) := by decide +kernel
theorem d_Mod_anew_111 : decode c_Mod_anew 111 = .ok (.goto (-53), 3) := by decide +kernel
theorem d_Mod_anew_114 : decode c_Mod_anew 114 = .ok (.return_, 1) := by decide +kernel
abbrev c_Mod_sheet : ByteArray := prog_10_method_24_code
def y_Mod_sheet : MethodName := ⟨"NetJoinsModel", "sheet", "(II)I"⟩
theorem ok_Mod_sheet : vOK y_Mod_sheet c_Mod_sheet 4 (some .int) 2 := ⟨kw_1243, kw_1241, kw_1242, kw_8, by decide +kernel⟩
theorem d_Mod_sheet_0 : decode c_Mod_sheet 0 = .ok (.iload_n 1, 1) := by decide +kernel
theorem d_Mod_sheet_1 : decode c_Mod_sheet 1 = .ok (.iconst (-1), 1) := by decide +kernel
theorem d_Mod_sheet_2 : decode c_Mod_sheet 2 = .ok (.if_icmp .eq 11, 3) := by decide +kernel
theorem d_Mod_sheet_5 : decode c_Mod_sheet 5 = .ok (.aload_n 0, 1) := by decide +kernel
theorem d_Mod_sheet_6 : decode c_Mod_sheet 6 = .ok (.iload_n 1, 1) := by decide +kernel
theorem d_Mod_sheet_7 : decode c_Mod_sheet 7 = .ok (.invokevirtual 89, 3) := by decide +kernel
theorem d_Mod_sheet_10 : decode c_Mod_sheet 10 = .ok (.ifCond .eq 20, 3) := by decide +kernel
theorem d_Mod_sheet_13 : decode c_Mod_sheet 13 = .ok (.iload_n 2, 1) := by decide +kernel
theorem d_Mod_sheet_14 : decode c_Mod_sheet 14 = .ok (.iconst (-1), 1) := by decide +kernel
theorem d_Mod_sheet_15 : decode c_Mod_sheet 15 = .ok (.if_icmp .eq 11, 3) := by decide +kernel
theorem d_Mod_sheet_18 : decode c_Mod_sheet 18 = .ok (.aload_n 0, 1) := by decide +kernel
theorem d_Mod_sheet_19 : decode c_Mod_sheet 19 = .ok (.iload_n 2, 1) := by decide +kernel
theorem d_Mod_sheet_20 : decode c_Mod_sheet 20 = .ok (.invokevirtual 89, 3) := by decide +kernel
theorem d_Mod_sheet_23 : decode c_Mod_sheet 23 = .ok (.ifCond .eq 7, 3) := by decide +kernel
theorem d_Mod_sheet_26 : decode c_Mod_sheet 26 = .ok (.iconst 1, 1) := by decide +kernel
theorem d_Mod_sheet_27 : decode c_Mod_sheet 27 = .ok (.goto 4, 3) := by decide +kernel
theorem d_Mod_sheet_30 : decode c_Mod_sheet 30 = .ok (.iconst 0, 1) := by decide +kernel
theorem d_Mod_sheet_31 : decode c_Mod_sheet 31 = .ok (.istore_n 3, 1) := by decide +kernel
theorem d_Mod_sheet_32 : decode c_Mod_sheet 32 = .ok (.aload_n 0, 1) := by decide +kernel
theorem d_Mod_sheet_33 : decode c_Mod_sheet 33 = .ok (.iload_n 3, 1) := by decide +kernel
theorem d_Mod_sheet_34 : decode c_Mod_sheet 34 = .ok (.ifCond .ne 7, 3) := by decide +kernel
theorem d_Mod_sheet_37 : decode c_Mod_sheet 37 = .ok (.iconst 1, 1) := by decide +kernel
theorem d_Mod_sheet_38 : decode c_Mod_sheet 38 = .ok (.goto 23, 3) := by decide +kernel
theorem d_Mod_sheet_41 : decode c_Mod_sheet 41 = .ok (.iload_n 2, 1) := by decide +kernel
theorem d_Mod_sheet_42 : decode c_Mod_sheet 42 = .ok (.iconst (-1), 1) := by decide +kernel
theorem d_Mod_sheet_43 : decode c_Mod_sheet 43 = .ok (.if_icmp .eq 17, 3) := by decide +kernel
theorem d_Mod_sheet_46 : decode c_Mod_sheet 46 = .ok (.aload_n 0, 1) := by decide +kernel
theorem d_Mod_sheet_47 : decode c_Mod_sheet 47 = .ok (.getfield 13, 3) := by decide +kernel
theorem d_Mod_sheet_50 : decode c_Mod_sheet 50 = .ok (.iload_n 2, 1) := by decide +kernel
theorem d_Mod_sheet_51 : decode c_Mod_sheet 51 = .ok (.iaload, 1) := by decide +kernel
theorem d_Mod_sheet_52 : decode c_Mod_sheet 52 = .ok (.iload_n 2, 1) := by decide +kernel
theorem d_Mod_sheet_53 : decode c_Mod_sheet 53 = .ok (.if_icmp .eq 7, 3) := by decide +kernel
theorem d_Mod_sheet_56 : decode c_Mod_sheet 56 = .ok (.iconst 2, 1) := by decide +kernel
theorem d_Mod_sheet_57 : decode c_Mod_sheet 57 = .ok (.goto 4, 3) := by decide +kernel
theorem d_Mod_sheet_60 : decode c_Mod_sheet 60 = .ok (.iconst 0, 1) := by decide +kernel
theorem d_Mod_sheet_61 : decode c_Mod_sheet 61 = .ok (.putfield 78, 3) := by decide +kernel
theorem d_Mod_sheet_64 : decode c_Mod_sheet 64 = .ok (.aload_n 0, 1) := by decide +kernel
theorem d_Mod_sheet_65 : decode c_Mod_sheet 65 = .ok (.getfield 78, 3) := by decide +kernel
theorem d_Mod_sheet_68 : decode c_Mod_sheet 68 = .ok (.ifCond .eq 5, 3) := by decide +kernel
theorem d_Mod_sheet_71 : decode c_Mod_sheet 71 = .ok (.iconst 0, 1) := by decide +kernel
theorem d_Mod_sheet_72 : decode c_Mod_sheet 72 = .ok (.ireturn, 1) := by decide +kernel
theorem d_Mod_sheet_73 : decode c_Mod_sheet 73 = .ok (.aload_n 0, 1) := by decide +kernel
theorem d_Mod_sheet_74 : decode c_Mod_sheet 74 = .ok (.getfield 82, 3) := by decide +kernel
theorem d_Mod_sheet_77 : decode c_Mod_sheet 77 = .ok (.bipush 16, 2) := by decide +kernel
theorem d_Mod_sheet_79 : decode c_Mod_sheet 79 = .ok (.if_icmp .ne 5, 3) := by decide +kernel
theorem d_Mod_sheet_82 : decode c_Mod_sheet 82 = .ok (.iconst (-1), 1) := by decide +kernel
theorem d_Mod_sheet_83 : decode c_Mod_sheet 83 = .ok (.ireturn, 1) := by decide +kernel
theorem d_Mod_sheet_84 : decode c_Mod_sheet 84 = .ok (.aload_n 0, 1) := by decide +kernel
theorem d_Mod_sheet_85 : decode c_Mod_sheet 85 = .ok (.getfield 7, 3) := by decide +kernel
theorem d_Mod_sheet_88 : decode c_Mod_sheet 88 = .ok (.aload_n 0, 1) := by decide +kernel
theorem d_Mod_sheet_89 : decode c_Mod_sheet 89 = .ok (.getfield 82, 3) := by decide +kernel
theorem d_Mod_sheet_92 : decode c_Mod_sheet 92 = .ok (.iload_n 1, 1) := by decide +kernel
theorem d_Mod_sheet_93 : decode c_Mod_sheet 93 = .ok (.iastore, 1) := by decide +kernel
theorem d_Mod_sheet_94 : decode c_Mod_sheet 94 = .ok (.aload_n 0, 1) := by decide +kernel
theorem d_Mod_sheet_95 : decode c_Mod_sheet 95 = .ok (.getfield 13, 3) := by decide +kernel
theorem d_Mod_sheet_98 : decode c_Mod_sheet 98 = .ok (.aload_n 0, 1) := by decide +kernel
theorem d_Mod_sheet_99 : decode c_Mod_sheet 99 = .ok (.getfield 82, 3) := by decide +kernel
theorem d_Mod_sheet_102 : decode c_Mod_sheet 102 = .ok (.iload_n 2, 1) := by decide +kernel
theorem d_Mod_sheet_103 : decode c_Mod_sheet 103 = .ok (.iconst (-1), 1) := by decide +kernel
theorem d_Mod_sheet_104 : decode c_Mod_sheet 104 = .ok (.if_icmp .ne 10, 3) := by decide +kernel
theorem d_Mod_sheet_107 : decode c_Mod_sheet 107 = .ok (.aload_n 0, 1) := by decide +kernel
theorem d_Mod_sheet_108 : decode c_Mod_sheet 108 = .ok (.getfield 82, 3) := by decide +kernel
theorem d_Mod_sheet_111 : decode c_Mod_sheet 111 = .ok (.goto 4, 3) := by decide +kernel
theorem d_Mod_sheet_114 : decode c_Mod_sheet 114 = .ok (.iload_n 2, 1) := by decide +kernel
theorem d_Mod_sheet_115 : decode c_Mod_sheet 115 = .ok (.iastore, 1) := by decide +kernel
theorem d_Mod_sheet_116 : decode c_Mod_sheet 116 = .ok (.aload_n 0, 1) := by decide +kernel
theorem d_Mod_sheet_117 : decode c_Mod_sheet 117 = .ok (.dup, 1) := by decide +kernel
theorem d_Mod_sheet_118 : decode c_Mod_sheet 118 = .ok (.getfield 82, 3) := by decide +kernel
theorem d_Mod_sheet_121 : decode c_Mod_sheet 121 = .ok (.iconst 1, 1) := by decide +kernel
theorem d_Mod_sheet_122 : decode c_Mod_sheet 122 = .ok (.iadd, 1) := by decide +kernel
theorem d_Mod_sheet_123 : decode c_Mod_sheet 123 = .ok (.putfield 82, 3) := by decide +kernel
theorem d_Mod_sheet_126 : decode c_Mod_sheet 126 = .ok (.aload_n 0, 1) := by decide +kernel
theorem d_Mod_sheet_127 : decode c_Mod_sheet 127 = .ok (.invokevirtual 174, 3) := by decide +kernel
theorem d_Mod_sheet_130 : decode c_Mod_sheet 130 = .ok (.aload_n 0, 1) := by decide +kernel
theorem d_Mod_sheet_131 : decode c_Mod_sheet 131 = .ok (.getfield 82, 3) := by decide +kernel
theorem d_Mod_sheet_134 : decode c_Mod_sheet 134 = .ok (.iconst 1, 1) := by decide +kernel
theorem d_Mod_sheet_135 : decode c_Mod_sheet 135 = .ok (.isub, 1) := by decide +kernel
theorem d_Mod_sheet_136 : decode c_Mod_sheet 136 = .ok (.ireturn, 1) := by decide +kernel
abbrev c_Mod_isPlace : ByteArray := prog_10_method_4_code
def y_Mod_isPlace : MethodName := ⟨"NetJoinsModel", "isPlace", "(JJ)Z"⟩
theorem ok_Mod_isPlace : sOK y_Mod_isPlace c_Mod_isPlace 4 (some .boolean) 2 := ⟨kw_1318, kw_1317, kw_8, by decide +kernel⟩
theorem d_Mod_isPlace_0 : decode c_Mod_isPlace 0 = .ok (.lload_n 0, 1) := by decide +kernel
theorem d_Mod_isPlace_1 : decode c_Mod_isPlace 1 = .ok (.ldc2_w 85, 3) := by decide +kernel
theorem d_Mod_isPlace_4 : decode c_Mod_isPlace 4 = .ok (.lcmp, 1) := by decide +kernel
theorem d_Mod_isPlace_5 : decode c_Mod_isPlace 5 = .ok (.ifCond .lt 31, 3) := by decide +kernel
theorem d_Mod_isPlace_8 : decode c_Mod_isPlace 8 = .ok (.lload_n 0, 1) := by decide +kernel
theorem d_Mod_isPlace_9 : decode c_Mod_isPlace 9 = .ok (.ldc2_w 87, 3) := by decide +kernel
theorem d_Mod_isPlace_12 : decode c_Mod_isPlace 12 = .ok (.lcmp, 1) := by decide +kernel
theorem d_Mod_isPlace_13 : decode c_Mod_isPlace 13 = .ok (.ifCond .gt 23, 3) := by decide +kernel
theorem d_Mod_isPlace_16 : decode c_Mod_isPlace 16 = .ok (.lload_n 2, 1) := by decide +kernel
theorem d_Mod_isPlace_17 : decode c_Mod_isPlace 17 = .ok (.ldc2_w 85, 3) := by decide +kernel
theorem d_Mod_isPlace_20 : decode c_Mod_isPlace 20 = .ok (.lcmp, 1) := by decide +kernel
theorem d_Mod_isPlace_21 : decode c_Mod_isPlace 21 = .ok (.ifCond .lt 15, 3) := by decide +kernel
theorem d_Mod_isPlace_24 : decode c_Mod_isPlace 24 = .ok (.lload_n 2, 1) := by decide +kernel
theorem d_Mod_isPlace_25 : decode c_Mod_isPlace 25 = .ok (.ldc2_w 87, 3) := by decide +kernel
theorem d_Mod_isPlace_28 : decode c_Mod_isPlace 28 = .ok (.lcmp, 1) := by decide +kernel
theorem d_Mod_isPlace_29 : decode c_Mod_isPlace 29 = .ok (.ifCond .gt 7, 3) := by decide +kernel
theorem d_Mod_isPlace_32 : decode c_Mod_isPlace 32 = .ok (.iconst 1, 1) := by decide +kernel
theorem d_Mod_isPlace_33 : decode c_Mod_isPlace 33 = .ok (.goto 4, 3) := by decide +kernel
theorem d_Mod_isPlace_36 : decode c_Mod_isPlace 36 = .ok (.iconst 0, 1) := by decide +kernel
theorem d_Mod_isPlace_37 : decode c_Mod_isPlace 37 = .ok (.ireturn, 1) := by decide +kernel
abbrev c_Mod_refusal : ByteArray := prog_10_method_6_code
def y_Mod_refusal : MethodName := ⟨"NetJoinsModel", "refusal", "(IZ)I"⟩
theorem ok_Mod_refusal : vOK y_Mod_refusal c_Mod_refusal 3 (some .int) 2 := ⟨kw_1324, kw_1323, ks_63, kw_8, by decide +kernel⟩
theorem d_Mod_refusal_0 : decode c_Mod_refusal 0 = .ok (.aload_n 0, 1) := by decide +kernel
theorem d_Mod_refusal_1 : decode c_Mod_refusal 1 = .ok (.iload_n 1, 1) := by decide +kernel
theorem d_Mod_refusal_2 : decode c_Mod_refusal 2 = .ok (.invokevirtual 89, 3) := by decide +kernel
theorem d_Mod_refusal_5 : decode c_Mod_refusal 5 = .ok (.ifCond .ne 5, 3) := by decide +kernel
theorem d_Mod_refusal_8 : decode c_Mod_refusal 8 = .ok (.iconst 1, 1) := by decide +kernel
theorem d_Mod_refusal_9 : decode c_Mod_refusal 9 = .ok (.ireturn, 1) := by decide +kernel
theorem d_Mod_refusal_10 : decode c_Mod_refusal 10 = .ok (.aload_n 0, 1) := by decide +kernel
theorem d_Mod_refusal_11 : decode c_Mod_refusal 11 = .ok (.getfield 13, 3) := by decide +kernel
theorem d_Mod_refusal_14 : decode c_Mod_refusal 14 = .ok (.iload_n 1, 1) := by decide +kernel
theorem d_Mod_refusal_15 : decode c_Mod_refusal 15 = .ok (.iaload, 1) := by decide +kernel
theorem d_Mod_refusal_16 : decode c_Mod_refusal 16 = .ok (.iload_n 1, 1) := by decide +kernel
theorem d_Mod_refusal_17 : decode c_Mod_refusal 17 = .ok (.if_icmp .eq 7, 3) := by decide +kernel
theorem d_Mod_refusal_20 : decode c_Mod_refusal 20 = .ok (.iconst 2, 1) := by decide +kernel
theorem d_Mod_refusal_21 : decode c_Mod_refusal 21 = .ok (.goto 12, 3) := by decide +kernel
theorem d_Mod_refusal_24 : decode c_Mod_refusal 24 = .ok (.iload_n 2, 1) := by decide +kernel
theorem d_Mod_refusal_25 : decode c_Mod_refusal 25 = .ok (.ifCond .eq 7, 3) := by decide +kernel
theorem d_Mod_refusal_28 : decode c_Mod_refusal 28 = .ok (.iconst 0, 1) := by decide +kernel
theorem d_Mod_refusal_29 : decode c_Mod_refusal 29 = .ok (.goto 4, 3) := by decide +kernel
theorem d_Mod_refusal_32 : decode c_Mod_refusal 32 = .ok (.iconst 3, 1) := by decide +kernel
theorem d_Mod_refusal_33 : decode c_Mod_refusal 33 = .ok (.ireturn, 1) := by decide +kernel
abbrev c_Mod_wire : ByteArray := prog_10_method_25_code
def y_Mod_wire : MethodName := ⟨"NetJoinsModel", "wire", "(IJJJJ)I"⟩
theorem ok_Mod_wire : vOK y_Mod_wire c_Mod_wire 10 (some .int) 5 := ⟨kw_1315, kw_1313, kw_1314, kw_8, by decide +kernel⟩
theorem d_Mod_wire_0 : decode c_Mod_wire 0 = .ok (.aload_n 0, 1) := by decide +kernel
theorem d_Mod_wire_1 : decode c_Mod_wire 1 = .ok (.aload_n 0, 1) := by decide +kernel
theorem d_Mod_wire_2 : decode c_Mod_wire 2 = .ok (.iload_n 1, 1) := by decide +kernel
theorem d_Mod_wire_3 : decode c_Mod_wire 3 = .ok (.lload_n 2, 1) := by decide +kernel
theorem d_Mod_wire_4 : decode c_Mod_wire 4 = .ok (.lload 4, 2) := by decide +kernel
theorem d_Mod_wire_6 : decode c_Mod_wire 6 = .ok (.invokestatic 177, 3) := by decide +kernel
theorem d_Mod_wire_9 : decode c_Mod_wire 9 = .ok (.ifCond .eq 32, 3) := by decide +kernel
theorem d_Mod_wire_12 : decode c_Mod_wire 12 = .ok (.lload 6, 2) := by decide +kernel
theorem d_Mod_wire_14 : decode c_Mod_wire 14 = .ok (.lload 8, 2) := by decide +kernel
theorem d_Mod_wire_16 : decode c_Mod_wire 16 = .ok (.invokestatic 177, 3) := by decide +kernel
theorem d_Mod_wire_19 : decode c_Mod_wire 19 = .ok (.ifCond .eq 22, 3) := by decide +kernel
theorem d_Mod_wire_22 : decode c_Mod_wire 22 = .ok (.lload_n 2, 1) := by decide +kernel
theorem d_Mod_wire_23 : decode c_Mod_wire 23 = .ok (.lload 6, 2) := by decide +kernel
theorem d_Mod_wire_25 : decode c_Mod_wire 25 = .ok (.lcmp, 1) := by decide +kernel
theorem d_Mod_wire_26 : decode c_Mod_wire 26 = .ok (.ifCond .ne 11, 3) := by decide +kernel
theorem d_Mod_wire_29 : decode c_Mod_wire 29 = .ok (.lload 4, 2) := by decide +kernel
theorem d_Mod_wire_31 : decode c_Mod_wire 31 = .ok (.lload 8, 2) := by decide +kernel
theorem d_Mod_wire_33 : decode c_Mod_wire 33 = .ok (.lcmp, 1) := by decide +kernel
theorem d_Mod_wire_34 : decode c_Mod_wire 34 = .ok (.ifCond .eq 7, 3) := by decide +kernel
theorem d_Mod_wire_37 : decode c_Mod_wire 37 = .ok (.iconst 1, 1) := by decide +kernel
theorem d_Mod_wire_38 : decode c_Mod_wire 38 = .ok (.goto 4, 3) := by decide +kernel
theorem d_Mod_wire_41 : decode c_Mod_wire 41 = .ok (.iconst 0, 1) := by decide +kernel
theorem d_Mod_wire_42 : decode c_Mod_wire 42 = .ok (.invokevirtual 181, 3) := by decide +kernel
theorem d_Mod_wire_45 : decode c_Mod_wire 45 = .ok (.putfield 78, 3) := by decide +kernel
theorem d_Mod_wire_48 : decode c_Mod_wire 48 = .ok (.aload_n 0, 1) := by decide +kernel
theorem d_Mod_wire_49 : decode c_Mod_wire 49 = .ok (.getfield 78, 3) := by decide +kernel
theorem d_Mod_wire_52 : decode c_Mod_wire 52 = .ok (.ifCond .eq 5, 3) := by decide +kernel
theorem d_Mod_wire_55 : decode c_Mod_wire 55 = .ok (.iconst 0, 1) := by decide +kernel
theorem d_Mod_wire_56 : decode c_Mod_wire 56 = .ok (.ireturn, 1) := by decide +kernel
theorem d_Mod_wire_57 : decode c_Mod_wire 57 = .ok (.aload_n 0, 1) := by decide +kernel
theorem d_Mod_wire_58 : decode c_Mod_wire 58 = .ok (.getfield 97, 3) := by decide +kernel
theorem d_Mod_wire_61 : decode c_Mod_wire 61 = .ok (.bipush 100, 2) := by decide +kernel
theorem d_Mod_wire_63 : decode c_Mod_wire 63 = .ok (.if_icmp .ne 5, 3) := by decide +kernel
theorem d_Mod_wire_66 : decode c_Mod_wire 66 = .ok (.iconst (-1), 1) := by decide +kernel
theorem d_Mod_wire_67 : decode c_Mod_wire 67 = .ok (.ireturn, 1) := by decide +kernel
theorem d_Mod_wire_68 : decode c_Mod_wire 68 = .ok (.aload_n 0, 1) := by decide +kernel
theorem d_Mod_wire_69 : decode c_Mod_wire 69 = .ok (.getfield 16, 3) := by decide +kernel
theorem d_Mod_wire_72 : decode c_Mod_wire 72 = .ok (.aload_n 0, 1) := by decide +kernel
theorem d_Mod_wire_73 : decode c_Mod_wire 73 = .ok (.getfield 97, 3) := by decide +kernel
theorem d_Mod_wire_76 : decode c_Mod_wire 76 = .ok (.iload_n 1, 1) := by decide +kernel
theorem d_Mod_wire_77 : decode c_Mod_wire 77 = .ok (.iastore, 1) := by decide +kernel
theorem d_Mod_wire_78 : decode c_Mod_wire 78 = .ok (.aload_n 0, 1) := by decide +kernel
theorem d_Mod_wire_79 : decode c_Mod_wire 79 = .ok (.getfield 19, 3) := by decide +kernel
theorem d_Mod_wire_82 : decode c_Mod_wire 82 = .ok (.iconst 4, 1) := by decide +kernel
theorem d_Mod_wire_83 : decode c_Mod_wire 83 = .ok (.aload_n 0, 1) := by decide +kernel
theorem d_Mod_wire_84 : decode c_Mod_wire 84 = .ok (.getfield 97, 3) := by decide +kernel
theorem d_Mod_wire_87 : decode c_Mod_wire 87 = .ok (.imul, 1) := by decide +kernel
theorem d_Mod_wire_88 : decode c_Mod_wire 88 = .ok (.lload_n 2, 1) := by decide +kernel
theorem d_Mod_wire_89 : decode c_Mod_wire 89 = .ok (.lastore, 1) := by decide +kernel
theorem d_Mod_wire_90 : decode c_Mod_wire 90 = .ok (.aload_n 0, 1) := by decide +kernel
theorem d_Mod_wire_91 : decode c_Mod_wire 91 = .ok (.getfield 19, 3) := by decide +kernel
theorem d_Mod_wire_94 : decode c_Mod_wire 94 = .ok (.iconst 4, 1) := by decide +kernel
theorem d_Mod_wire_95 : decode c_Mod_wire 95 = .ok (.aload_n 0, 1) := by decide +kernel
theorem d_Mod_wire_96 : decode c_Mod_wire 96 = .ok (.getfield 97, 3) := by decide +kernel
theorem d_Mod_wire_99 : decode c_Mod_wire 99 = .ok (.imul, 1) := by decide +kernel
theorem d_Mod_wire_100 : decode c_Mod_wire 100 = .ok (.iconst 1, 1) := by decide +kernel
theorem d_Mod_wire_101 : decode c_Mod_wire 101 = .ok (.iadd, 1) := by decide +kernel
theorem d_Mod_wire_102 : decode c_Mod_wire 102 = .ok (.lload 4, 2) := by decide +kernel
theorem d_Mod_wire_104 : decode c_Mod_wire 104 = .ok (.lastore, 1) := by decide +kernel
theorem d_Mod_wire_105 : decode c_Mod_wire 105 = .ok (.aload_n 0, 1) := by decide +kernel
theorem d_Mod_wire_106 : decode c_Mod_wire 106 = .ok (.getfield 19, 3) := by decide +kernel
theorem d_Mod_wire_109 : decode c_Mod_wire 109 = .ok (.iconst 4, 1) := by decide +kernel
theorem d_Mod_wire_110 : decode c_Mod_wire 110 = .ok (.aload_n 0, 1) := by decide +kernel
theorem d_Mod_wire_111 : decode c_Mod_wire 111 = .ok (.getfield 97, 3) := by decide +kernel
theorem d_Mod_wire_114 : decode c_Mod_wire 114 = .ok (.imul, 1) := by decide +kernel
theorem d_Mod_wire_115 : decode c_Mod_wire 115 = .ok (.iconst 2, 1) := by decide +kernel
theorem d_Mod_wire_116 : decode c_Mod_wire 116 = .ok (.iadd, 1) := by decide +kernel
theorem d_Mod_wire_117 : decode c_Mod_wire 117 = .ok (.lload 6, 2) := by decide +kernel
theorem d_Mod_wire_119 : decode c_Mod_wire 119 = .ok (.lastore, 1) := by decide +kernel
theorem d_Mod_wire_120 : decode c_Mod_wire 120 = .ok (.aload_n 0, 1) := by decide +kernel
theorem d_Mod_wire_121 : decode c_Mod_wire 121 = .ok (.getfield 19, 3) := by decide +kernel
theorem d_Mod_wire_124 : decode c_Mod_wire 124 = .ok (.iconst 4, 1) := by decide +kernel
theorem d_Mod_wire_125 : decode c_Mod_wire 125 = .ok (.aload_n 0, 1) := by decide +kernel
theorem d_Mod_wire_126 : decode c_Mod_wire 126 = .ok (.getfield 97, 3) := by decide +kernel
theorem d_Mod_wire_129 : decode c_Mod_wire 129 = .ok (.imul, 1) := by decide +kernel
theorem d_Mod_wire_130 : decode c_Mod_wire 130 = .ok (.iconst 3, 1) := by decide +kernel
theorem d_Mod_wire_131 : decode c_Mod_wire 131 = .ok (.iadd, 1) := by decide +kernel
theorem d_Mod_wire_132 : decode c_Mod_wire 132 = .ok (.lload 8, 2) := by decide +kernel
theorem d_Mod_wire_134 : decode c_Mod_wire 134 = .ok (.lastore, 1) := by decide +kernel
theorem d_Mod_wire_135 : decode c_Mod_wire 135 = .ok (.aload_n 0, 1) := by decide +kernel
theorem d_Mod_wire_136 : decode c_Mod_wire 136 = .ok (.dup, 1) := by decide +kernel
theorem d_Mod_wire_137 : decode c_Mod_wire 137 = .ok (.getfield 97, 3) := by decide +kernel
theorem d_Mod_wire_140 : decode c_Mod_wire 140 = .ok (.iconst 1, 1) := by decide +kernel
theorem d_Mod_wire_141 : decode c_Mod_wire 141 = .ok (.iadd, 1) := by decide +kernel
theorem d_Mod_wire_142 : decode c_Mod_wire 142 = .ok (.putfield 97, 3) := by decide +kernel
theorem d_Mod_wire_145 : decode c_Mod_wire 145 = .ok (.aload_n 0, 1) := by decide +kernel
theorem d_Mod_wire_146 : decode c_Mod_wire 146 = .ok (.invokevirtual 174, 3) := by decide +kernel
theorem d_Mod_wire_149 : decode c_Mod_wire 149 = .ok (.aload_n 0, 1) := by decide +kernel
theorem d_Mod_wire_150 : decode c_Mod_wire 150 = .ok (.getfield 97, 3) := by decide +kernel
theorem d_Mod_wire_153 : decode c_Mod_wire 153 = .ok (.iconst 1, 1) := by decide +kernel
theorem d_Mod_wire_154 : decode c_Mod_wire 154 = .ok (.isub, 1) := by decide +kernel
theorem d_Mod_wire_155 : decode c_Mod_wire 155 = .ok (.ireturn, 1) := by decide +kernel
abbrev c_Mod_junction : ByteArray := prog_10_method_26_code
def y_Mod_junction : MethodName := ⟨"NetJoinsModel", "junction", "(IJJ)Z"⟩
theorem ok_Mod_junction : vOK y_Mod_junction c_Mod_junction 7 (some .boolean) 3 := ⟨kw_1328, kw_1326, kw_1327, kw_8, by decide +kernel⟩
theorem d_Mod_junction_0 : decode c_Mod_junction 0 = .ok (.aload_n 0, 1) := by decide +kernel
theorem d_Mod_junction_1 : decode c_Mod_junction 1 = .ok (.aload_n 0, 1) := by decide +kernel
theorem d_Mod_junction_2 : decode c_Mod_junction 2 = .ok (.iload_n 1, 1) := by decide +kernel
theorem d_Mod_junction_3 : decode c_Mod_junction 3 = .ok (.lload_n 2, 1) := by decide +kernel
theorem d_Mod_junction_4 : decode c_Mod_junction 4 = .ok (.lload 4, 2) := by decide +kernel
theorem d_Mod_junction_6 : decode c_Mod_junction 6 = .ok (.invokestatic 177, 3) := by decide +kernel
theorem d_Mod_junction_9 : decode c_Mod_junction 9 = .ok (.invokevirtual 181, 3) := by decide +kernel
theorem d_Mod_junction_12 : decode c_Mod_junction 12 = .ok (.putfield 78, 3) := by decide +kernel
theorem d_Mod_junction_15 : decode c_Mod_junction 15 = .ok (.aload_n 0, 1) := by decide +kernel
theorem d_Mod_junction_16 : decode c_Mod_junction 16 = .ok (.getfield 78, 3) := by decide +kernel
theorem d_Mod_junction_19 : decode c_Mod_junction 19 = .ok (.ifCond .ne 12, 3) := by decide +kernel
theorem d_Mod_junction_22 : decode c_Mod_junction 22 = .ok (.aload_n 0, 1) := by decide +kernel
theorem d_Mod_junction_23 : decode c_Mod_junction 23 = .ok (.getfield 107, 3) := by decide +kernel
theorem d_Mod_junction_26 : decode c_Mod_junction 26 = .ok (.bipush 50, 2) := by decide +kernel
theorem d_Mod_junction_28 : decode c_Mod_junction 28 = .ok (.if_icmp .ne 5, 3) := by decide +kernel
theorem d_Mod_junction_31 : decode c_Mod_junction 31 = .ok (.iconst 0, 1) := by decide +kernel
theorem d_Mod_junction_32 : decode c_Mod_junction 32 = .ok (.ireturn, 1) := by decide +kernel
theorem d_Mod_junction_33 : decode c_Mod_junction 33 = .ok (.iconst 0, 1) := by decide +kernel
theorem d_Mod_junction_34 : decode c_Mod_junction 34 = .ok (.istore 6, 2) := by decide +kernel
theorem d_Mod_junction_36 : decode c_Mod_junction 36 = .ok (.iload 6, 2) := by decide +kernel
theorem d_Mod_junction_38 : decode c_Mod_junction 38 = .ok (.aload_n 0, 1) := by decide +kernel
theorem d_Mod_junction_39 : decode c_Mod_junction 39 = .ok (.getfield 107, 3) := by decide +kernel
theorem d_Mod_junction_42 : decode c_Mod_junction 42 = .ok (.if_icmp .ge 53, 3) := by decide +kernel
theorem d_Mod_junction_45 : decode c_Mod_junction 45 = .ok (.aload_n 0, 1) := by decide +kernel
theorem d_Mod_junction_46 : decode c_Mod_junction 46 = .ok (.getfield 27, 3) := by decide +kernel
theorem d_Mod_junction_49 : decode c_Mod_junction 49 = .ok (.iload 6, 2) := by decide +kernel
theorem d_Mod_junction_51 : decode c_Mod_junction 51 = .ok (.iaload, 1) := by decide +kernel
theorem d_Mod_junction_52 : decode c_Mod_junction 52 = .ok (.iload_n 1, 1) := by decide +kernel
theorem d_Mod_junction_53 : decode c_Mod_junction 53 = .ok (.if_icmp .ne 36, 3) := by decide +kernel
theorem d_Mod_junction_56 : decode c_Mod_junction 56 = .ok (.aload_n 0, 1) := by decide +kernel
theorem d_Mod_junction_57 : decode c_Mod_junction 57 = .ok (.getfield 30, 3) := by decide +kernel
theorem d_Mod_junction_60 : decode c_Mod_junction 60 = .ok (.iconst 2, 1) := by decide +kernel
theorem d_Mod_junction_61 : decode c_Mod_junction 61 = .ok (.iload 6, 2) := by decide +kernel
theorem d_Mod_junction_63 : decode c_Mod_junction 63 = .ok (.imul, 1) := by decide +kernel
theorem d_Mod_junction_64 : decode c_Mod_junction 64 = .ok (.laload, 1) := by decide +kernel
theorem d_Mod_junction_65 : decode c_Mod_junction 65 = .ok (.lload_n 2, 1) := by decide +kernel
theorem d_Mod_junction_66 : decode c_Mod_junction 66 = .ok (.lcmp, 1) := by decide +kernel
theorem d_Mod_junction_67 : decode c_Mod_junction 67 = .ok (.ifCond .ne 22, 3) := by decide +kernel
theorem d_Mod_junction_70 : decode c_Mod_junction 70 = .ok (.aload_n 0, 1) := by decide +kernel
theorem d_Mod_junction_71 : decode c_Mod_junction 71 = .ok (.getfield 30, 3) := by decide +kernel
theorem d_Mod_junction_74 : decode c_Mod_junction 74 = .ok (.iconst 2, 1) := by decide +kernel
theorem d_Mod_junction_75 : decode c_Mod_junction 75 = .ok (.iload 6, 2) := by decide +kernel
theorem d_Mod_junction_77 : decode c_Mod_junction 77 = .ok (.imul, 1) := by decide +kernel
theorem d_Mod_junction_78 : decode c_Mod_junction 78 = .ok (.iconst 1, 1) := by decide +kernel
theorem d_Mod_junction_79 : decode c_Mod_junction 79 = .ok (.iadd, 1) := by decide +kernel
theorem d_Mod_junction_80 : decode c_Mod_junction 80 = .ok (.laload, 1) := by decide +kernel
theorem d_Mod_junction_81 : decode c_Mod_junction 81 = .ok (.lload 4, 2) := by decide +kernel
theorem d_Mod_junction_83 : decode c_Mod_junction 83 = .ok (.lcmp, 1) := by decide +kernel
theorem d_Mod_junction_84 : decode c_Mod_junction 84 = .ok (.ifCond .ne 5, 3) := by decide +kernel
theorem d_Mod_junction_87 : decode c_Mod_junction 87 = .ok (.iconst 0, 1) := by decide +kernel
theorem d_Mod_junction_88 : decode c_Mod_junction 88 = .ok (.ireturn, 1) := by decide +kernel
theorem d_Mod_junction_89 : decode c_Mod_junction 89 = .ok (.iinc 6 1, 3) := by decide +kernel
theorem d_Mod_junction_92 : decode c_Mod_junction 92 = .ok (.goto (-56), 3) := by decide +kernel
theorem d_Mod_junction_95 : decode c_Mod_junction 95 = .ok (.aload_n 0, 1) := by decide +kernel
theorem d_Mod_junction_96 : decode c_Mod_junction 96 = .ok (.getfield 27, 3) := by decide +kernel
theorem d_Mod_junction_99 : decode c_Mod_junction 99 = .ok (.aload_n 0, 1) := by decide +kernel
theorem d_Mod_junction_100 : decode c_Mod_junction 100 = .ok (.getfield 107, 3) := by decide +kernel
theorem d_Mod_junction_103 : decode c_Mod_junction 103 = .ok (.iload_n 1, 1) := by decide +kernel
theorem d_Mod_junction_104 : decode c_Mod_junction 104 = .ok (.iastore, 1) := by decide +kernel
theorem d_Mod_junction_105 : decode c_Mod_junction 105 = .ok (.aload_n 0, 1) := by decide +kernel
theorem d_Mod_junction_106 : decode c_Mod_junction 106 = .ok (.getfield 30, 3) := by decide +kernel
theorem d_Mod_junction_109 : decode c_Mod_junction 109 = .ok (.iconst 2, 1) := by decide +kernel
theorem d_Mod_junction_110 : decode c_Mod_junction 110 = .ok (.aload_n 0, 1) := by decide +kernel
theorem d_Mod_junction_111 : decode c_Mod_junction 111 = .ok (.getfield 107, 3) := by decide +kernel
theorem d_Mod_junction_114 : decode c_Mod_junction 114 = .ok (.imul, 1) := by decide +kernel
theorem d_Mod_junction_115 : decode c_Mod_junction 115 = .ok (.lload_n 2, 1) := by decide +kernel
theorem d_Mod_junction_116 : decode c_Mod_junction 116 = .ok (.lastore, 1) := by decide +kernel
theorem d_Mod_junction_117 : decode c_Mod_junction 117 = .ok (.aload_n 0, 1) := by decide +kernel
theorem d_Mod_junction_118 : decode c_Mod_junction 118 = .ok (.getfield 30, 3) := by decide +kernel
theorem d_Mod_junction_121 : decode c_Mod_junction 121 = .ok (.iconst 2, 1) := by decide +kernel
theorem d_Mod_junction_122 : decode c_Mod_junction 122 = .ok (.aload_n 0, 1) := by decide +kernel
theorem d_Mod_junction_123 : decode c_Mod_junction 123 = .ok (.getfield 107, 3) := by decide +kernel
theorem d_Mod_junction_126 : decode c_Mod_junction 126 = .ok (.imul, 1) := by decide +kernel
theorem d_Mod_junction_127 : decode c_Mod_junction 127 = .ok (.iconst 1, 1) := by decide +kernel
theorem d_Mod_junction_128 : decode c_Mod_junction 128 = .ok (.iadd, 1) := by decide +kernel
theorem d_Mod_junction_129 : decode c_Mod_junction 129 = .ok (.lload 4, 2) := by decide +kernel
theorem d_Mod_junction_131 : decode c_Mod_junction 131 = .ok (.lastore, 1) := by decide +kernel
theorem d_Mod_junction_132 : decode c_Mod_junction 132 = .ok (.aload_n 0, 1) := by decide +kernel
theorem d_Mod_junction_133 : decode c_Mod_junction 133 = .ok (.dup, 1) := by decide +kernel
theorem d_Mod_junction_134 : decode c_Mod_junction 134 = .ok (.getfield 107, 3) := by decide +kernel
theorem d_Mod_junction_137 : decode c_Mod_junction 137 = .ok (.iconst 1, 1) := by decide +kernel
theorem d_Mod_junction_138 : decode c_Mod_junction 138 = .ok (.iadd, 1) := by decide +kernel
theorem d_Mod_junction_139 : decode c_Mod_junction 139 = .ok (.putfield 107, 3) := by decide +kernel
theorem d_Mod_junction_142 : decode c_Mod_junction 142 = .ok (.aload_n 0, 1) := by decide +kernel
theorem d_Mod_junction_143 : decode c_Mod_junction 143 = .ok (.invokevirtual 174, 3) := by decide +kernel
theorem d_Mod_junction_146 : decode c_Mod_junction 146 = .ok (.iconst 1, 1) := by decide +kernel
theorem d_Mod_junction_147 : decode c_Mod_junction 147 = .ok (.ireturn, 1) := by decide +kernel
abbrev c_Mod_isName : ByteArray := prog_10_method_5_code
def y_Mod_isName : MethodName := ⟨"NetJoinsModel", "isName", "(I)Z"⟩
theorem ok_Mod_isName : sOK y_Mod_isName c_Mod_isName 1 (some .boolean) 1 := ⟨kw_1335, kw_1334, kw_8, by decide +kernel⟩
theorem d_Mod_isName_0 : decode c_Mod_isName 0 = .ok (.iload_n 0, 1) := by decide +kernel
theorem d_Mod_isName_1 : decode c_Mod_isName 1 = .ok (.ifCond .lt 14, 3) := by decide +kernel
theorem d_Mod_isName_4 : decode c_Mod_isName 4 = .ok (.iload_n 0, 1) := by decide +kernel
theorem d_Mod_isName_5 : decode c_Mod_isName 5 = .ok (.sipush 1000, 3) := by decide +kernel
theorem d_Mod_isName_8 : decode c_Mod_isName 8 = .ok (.if_icmp .ge 7, 3) := by decide +kernel
theorem d_Mod_isName_11 : decode c_Mod_isName 11 = .ok (.iconst 1, 1) := by decide +kernel
theorem d_Mod_isName_12 : decode c_Mod_isName 12 = .ok (.goto 4, 3) := by decide +kernel
theorem d_Mod_isName_15 : decode c_Mod_isName 15 = .ok (.iconst 0, 1) := by decide +kernel
theorem d_Mod_isName_16 : decode c_Mod_isName 16 = .ok (.ireturn, 1) := by decide +kernel
abbrev c_Mod_label : ByteArray := prog_10_method_27_code
def y_Mod_label : MethodName := ⟨"NetJoinsModel", "label", "(IJJI)I"⟩
theorem ok_Mod_label : vOK y_Mod_label c_Mod_label 7 (some .int) 4 := ⟨kw_1332, kw_1330, kw_1331, kw_8, by decide +kernel⟩
theorem d_Mod_label_0 : decode c_Mod_label 0 = .ok (.aload_n 0, 1) := by decide +kernel
theorem d_Mod_label_1 : decode c_Mod_label 1 = .ok (.aload_n 0, 1) := by decide +kernel
theorem d_Mod_label_2 : decode c_Mod_label 2 = .ok (.iload_n 1, 1) := by decide +kernel
theorem d_Mod_label_3 : decode c_Mod_label 3 = .ok (.lload_n 2, 1) := by decide +kernel
theorem d_Mod_label_4 : decode c_Mod_label 4 = .ok (.lload 4, 2) := by decide +kernel
theorem d_Mod_label_6 : decode c_Mod_label 6 = .ok (.invokestatic 177, 3) := by decide +kernel
theorem d_Mod_label_9 : decode c_Mod_label 9 = .ok (.ifCond .eq 15, 3) := by decide +kernel
theorem d_Mod_label_12 : decode c_Mod_label 12 = .ok (.iload 6, 2) := by decide +kernel
theorem d_Mod_label_14 : decode c_Mod_label 14 = .ok (.invokestatic 185, 3) := by decide +kernel
theorem d_Mod_label_17 : decode c_Mod_label 17 = .ok (.ifCond .eq 7, 3) := by decide +kernel
theorem d_Mod_label_20 : decode c_Mod_label 20 = .ok (.iconst 1, 1) := by decide +kernel
theorem d_Mod_label_21 : decode c_Mod_label 21 = .ok (.goto 4, 3) := by decide +kernel
theorem d_Mod_label_24 : decode c_Mod_label 24 = .ok (.iconst 0, 1) := by decide +kernel
theorem d_Mod_label_25 : decode c_Mod_label 25 = .ok (.invokevirtual 181, 3) := by decide +kernel
theorem d_Mod_label_28 : decode c_Mod_label 28 = .ok (.putfield 78, 3) := by decide +kernel
theorem d_Mod_label_31 : decode c_Mod_label 31 = .ok (.aload_n 0, 1) := by decide +kernel
theorem d_Mod_label_32 : decode c_Mod_label 32 = .ok (.getfield 78, 3) := by decide +kernel
theorem d_Mod_label_35 : decode c_Mod_label 35 = .ok (.ifCond .eq 5, 3) := by decide +kernel
theorem d_Mod_label_38 : decode c_Mod_label 38 = .ok (.iconst 0, 1) := by decide +kernel
theorem d_Mod_label_39 : decode c_Mod_label 39 = .ok (.ireturn, 1) := by decide +kernel
theorem d_Mod_label_40 : decode c_Mod_label 40 = .ok (.aload_n 0, 1) := by decide +kernel
theorem d_Mod_label_41 : decode c_Mod_label 41 = .ok (.getfield 118, 3) := by decide +kernel
theorem d_Mod_label_44 : decode c_Mod_label 44 = .ok (.bipush 60, 2) := by decide +kernel
theorem d_Mod_label_46 : decode c_Mod_label 46 = .ok (.if_icmp .ne 5, 3) := by decide +kernel
theorem d_Mod_label_49 : decode c_Mod_label 49 = .ok (.iconst (-1), 1) := by decide +kernel
theorem d_Mod_label_50 : decode c_Mod_label 50 = .ok (.ireturn, 1) := by decide +kernel
theorem d_Mod_label_51 : decode c_Mod_label 51 = .ok (.aload_n 0, 1) := by decide +kernel
theorem d_Mod_label_52 : decode c_Mod_label 52 = .ok (.getfield 33, 3) := by decide +kernel
theorem d_Mod_label_55 : decode c_Mod_label 55 = .ok (.aload_n 0, 1) := by decide +kernel
theorem d_Mod_label_56 : decode c_Mod_label 56 = .ok (.getfield 118, 3) := by decide +kernel
theorem d_Mod_label_59 : decode c_Mod_label 59 = .ok (.iload_n 1, 1) := by decide +kernel
theorem d_Mod_label_60 : decode c_Mod_label 60 = .ok (.iastore, 1) := by decide +kernel
theorem d_Mod_label_61 : decode c_Mod_label 61 = .ok (.aload_n 0, 1) := by decide +kernel
theorem d_Mod_label_62 : decode c_Mod_label 62 = .ok (.getfield 36, 3) := by decide +kernel
theorem d_Mod_label_65 : decode c_Mod_label 65 = .ok (.aload_n 0, 1) := by decide +kernel
theorem d_Mod_label_66 : decode c_Mod_label 66 = .ok (.getfield 118, 3) := by decide +kernel
theorem d_Mod_label_69 : decode c_Mod_label 69 = .ok (.iload 6, 2) := by decide +kernel
theorem d_Mod_label_71 : decode c_Mod_label 71 = .ok (.iastore, 1) := by decide +kernel
theorem d_Mod_label_72 : decode c_Mod_label 72 = .ok (.aload_n 0, 1) := by decide +kernel
theorem d_Mod_label_73 : decode c_Mod_label 73 = .ok (.getfield 39, 3) := by decide +kernel
theorem d_Mod_label_76 : decode c_Mod_label 76 = .ok (.iconst 2, 1) := by decide +kernel
theorem d_Mod_label_77 : decode c_Mod_label 77 = .ok (.aload_n 0, 1) := by decide +kernel
theorem d_Mod_label_78 : decode c_Mod_label 78 = .ok (.getfield 118, 3) := by decide +kernel
theorem d_Mod_label_81 : decode c_Mod_label 81 = .ok (.imul, 1) := by decide +kernel
theorem d_Mod_label_82 : decode c_Mod_label 82 = .ok (.lload_n 2, 1) := by decide +kernel
theorem d_Mod_label_83 : decode c_Mod_label 83 = .ok (.lastore, 1) := by decide +kernel
theorem d_Mod_label_84 : decode c_Mod_label 84 = .ok (.aload_n 0, 1) := by decide +kernel
theorem d_Mod_label_85 : decode c_Mod_label 85 = .ok (.getfield 39, 3) := by decide +kernel
theorem d_Mod_label_88 : decode c_Mod_label 88 = .ok (.iconst 2, 1) := by decide +kernel
theorem d_Mod_label_89 : decode c_Mod_label 89 = .ok (.aload_n 0, 1) := by decide +kernel
theorem d_Mod_label_90 : decode c_Mod_label 90 = .ok (.getfield 118, 3) := by decide +kernel
theorem d_Mod_label_93 : decode c_Mod_label 93 = .ok (.imul, 1) := by decide +kernel
theorem d_Mod_label_94 : decode c_Mod_label 94 = .ok (.iconst 1, 1) := by decide +kernel
theorem d_Mod_label_95 : decode c_Mod_label 95 = .ok (.iadd, 1) := by decide +kernel
theorem d_Mod_label_96 : decode c_Mod_label 96 = .ok (.lload 4, 2) := by decide +kernel
theorem d_Mod_label_98 : decode c_Mod_label 98 = .ok (.lastore, 1) := by decide +kernel
theorem d_Mod_label_99 : decode c_Mod_label 99 = .ok (.aload_n 0, 1) := by decide +kernel
theorem d_Mod_label_100 : decode c_Mod_label 100 = .ok (.dup, 1) := by decide +kernel
theorem d_Mod_label_101 : decode c_Mod_label 101 = .ok (.getfield 118, 3) := by decide +kernel
theorem d_Mod_label_104 : decode c_Mod_label 104 = .ok (.iconst 1, 1) := by decide +kernel
theorem d_Mod_label_105 : decode c_Mod_label 105 = .ok (.iadd, 1) := by decide +kernel
theorem d_Mod_label_106 : decode c_Mod_label 106 = .ok (.putfield 118, 3) := by decide +kernel
theorem d_Mod_label_109 : decode c_Mod_label 109 = .ok (.aload_n 0, 1) := by decide +kernel
theorem d_Mod_label_110 : decode c_Mod_label 110 = .ok (.invokevirtual 174, 3) := by decide +kernel
theorem d_Mod_label_113 : decode c_Mod_label 113 = .ok (.aload_n 0, 1) := by decide +kernel
theorem d_Mod_label_114 : decode c_Mod_label 114 = .ok (.getfield 118, 3) := by decide +kernel
theorem d_Mod_label_117 : decode c_Mod_label 117 = .ok (.iconst 1, 1) := by decide +kernel
theorem d_Mod_label_118 : decode c_Mod_label 118 = .ok (.isub, 1) := by decide +kernel
theorem d_Mod_label_119 : decode c_Mod_label 119 = .ok (.ireturn, 1) := by decide +kernel
abbrev c_Mod_pin : ByteArray := prog_10_method_28_code
def y_Mod_pin : MethodName := ⟨"NetJoinsModel", "pin", "(IJJI)I"⟩
theorem ok_Mod_pin : vOK y_Mod_pin c_Mod_pin 8 (some .int) 4 := ⟨kw_1339, kw_1337, kw_1338, kw_8, by decide +kernel⟩
theorem d_Mod_pin_0 : decode c_Mod_pin 0 = .ok (.aload_n 0, 1) := by decide +kernel
theorem d_Mod_pin_1 : decode c_Mod_pin 1 = .ok (.aload_n 0, 1) := by decide +kernel
theorem d_Mod_pin_2 : decode c_Mod_pin 2 = .ok (.iload_n 1, 1) := by decide +kernel
theorem d_Mod_pin_3 : decode c_Mod_pin 3 = .ok (.lload_n 2, 1) := by decide +kernel
theorem d_Mod_pin_4 : decode c_Mod_pin 4 = .ok (.lload 4, 2) := by decide +kernel
theorem d_Mod_pin_6 : decode c_Mod_pin 6 = .ok (.invokestatic 177, 3) := by decide +kernel
theorem d_Mod_pin_9 : decode c_Mod_pin 9 = .ok (.invokevirtual 181, 3) := by decide +kernel
theorem d_Mod_pin_12 : decode c_Mod_pin 12 = .ok (.putfield 78, 3) := by decide +kernel
theorem d_Mod_pin_15 : decode c_Mod_pin 15 = .ok (.aload_n 0, 1) := by decide +kernel
theorem d_Mod_pin_16 : decode c_Mod_pin 16 = .ok (.getfield 78, 3) := by decide +kernel
theorem d_Mod_pin_19 : decode c_Mod_pin 19 = .ok (.ifCond .eq 5, 3) := by decide +kernel
theorem d_Mod_pin_22 : decode c_Mod_pin 22 = .ok (.iconst 0, 1) := by decide +kernel
theorem d_Mod_pin_23 : decode c_Mod_pin 23 = .ok (.ireturn, 1) := by decide +kernel
theorem d_Mod_pin_24 : decode c_Mod_pin 24 = .ok (.aload_n 0, 1) := by decide +kernel
theorem d_Mod_pin_25 : decode c_Mod_pin 25 = .ok (.getfield 121, 3) := by decide +kernel
theorem d_Mod_pin_28 : decode c_Mod_pin 28 = .ok (.bipush 60, 2) := by decide +kernel
theorem d_Mod_pin_30 : decode c_Mod_pin 30 = .ok (.if_icmp .ne 5, 3) := by decide +kernel
theorem d_Mod_pin_33 : decode c_Mod_pin 33 = .ok (.iconst (-1), 1) := by decide +kernel
theorem d_Mod_pin_34 : decode c_Mod_pin 34 = .ok (.ireturn, 1) := by decide +kernel
theorem d_Mod_pin_35 : decode c_Mod_pin 35 = .ok (.iconst 0, 1) := by decide +kernel
theorem d_Mod_pin_36 : decode c_Mod_pin 36 = .ok (.istore 7, 2) := by decide +kernel
theorem d_Mod_pin_38 : decode c_Mod_pin 38 = .ok (.iload 7, 2) := by decide +kernel
theorem d_Mod_pin_40 : decode c_Mod_pin 40 = .ok (.aload_n 0, 1) := by decide +kernel
theorem d_Mod_pin_41 : decode c_Mod_pin 41 = .ok (.getfield 121, 3) := by decide +kernel
theorem d_Mod_pin_44 : decode c_Mod_pin 44 = .ok (.if_icmp .ge 65, 3) := by decide +kernel
theorem d_Mod_pin_47 : decode c_Mod_pin 47 = .ok (.aload_n 0, 1) := by decide +kernel
theorem d_Mod_pin_48 : decode c_Mod_pin 48 = .ok (.getfield 42, 3) := by decide +kernel
theorem d_Mod_pin_51 : decode c_Mod_pin 51 = .ok (.iload 7, 2) := by decide +kernel
theorem d_Mod_pin_53 : decode c_Mod_pin 53 = .ok (.iaload, 1) := by decide +kernel
theorem d_Mod_pin_54 : decode c_Mod_pin 54 = .ok (.iload_n 1, 1) := by decide +kernel
theorem d_Mod_pin_55 : decode c_Mod_pin 55 = .ok (.if_icmp .ne 48, 3) := by decide +kernel
theorem d_Mod_pin_58 : decode c_Mod_pin 58 = .ok (.aload_n 0, 1) := by decide +kernel
theorem d_Mod_pin_59 : decode c_Mod_pin 59 = .ok (.getfield 45, 3) := by decide +kernel
theorem d_Mod_pin_62 : decode c_Mod_pin 62 = .ok (.iload 7, 2) := by decide +kernel
theorem d_Mod_pin_64 : decode c_Mod_pin 64 = .ok (.iaload, 1) := by decide +kernel
theorem d_Mod_pin_65 : decode c_Mod_pin 65 = .ok (.iload 6, 2) := by decide +kernel
theorem d_Mod_pin_67 : decode c_Mod_pin 67 = .ok (.if_icmp .ne 36, 3) := by decide +kernel
theorem d_Mod_pin_70 : decode c_Mod_pin 70 = .ok (.aload_n 0, 1) := by decide +kernel
theorem d_Mod_pin_71 : decode c_Mod_pin 71 = .ok (.getfield 48, 3) := by decide +kernel
theorem d_Mod_pin_74 : decode c_Mod_pin 74 = .ok (.iconst 2, 1) := by decide +kernel
theorem d_Mod_pin_75 : decode c_Mod_pin 75 = .ok (.iload 7, 2) := by decide +kernel
theorem d_Mod_pin_77 : decode c_Mod_pin 77 = .ok (.imul, 1) := by decide +kernel
theorem d_Mod_pin_78 : decode c_Mod_pin 78 = .ok (.laload, 1) := by decide +kernel
theorem d_Mod_pin_79 : decode c_Mod_pin 79 = .ok (.lload_n 2, 1) := by decide +kernel
theorem d_Mod_pin_80 : decode c_Mod_pin 80 = .ok (.lcmp, 1) := by decide +kernel
theorem d_Mod_pin_81 : decode c_Mod_pin 81 = .ok (.ifCond .ne 22, 3) := by decide +kernel
theorem d_Mod_pin_84 : decode c_Mod_pin 84 = .ok (.aload_n 0, 1) := by decide +kernel
theorem d_Mod_pin_85 : decode c_Mod_pin 85 = .ok (.getfield 48, 3) := by decide +kernel
theorem d_Mod_pin_88 : decode c_Mod_pin 88 = .ok (.iconst 2, 1) := by decide +kernel
theorem d_Mod_pin_89 : decode c_Mod_pin 89 = .ok (.iload 7, 2) := by decide +kernel
theorem d_Mod_pin_91 : decode c_Mod_pin 91 = .ok (.imul, 1) := by decide +kernel
theorem d_Mod_pin_92 : decode c_Mod_pin 92 = .ok (.iconst 1, 1) := by decide +kernel
theorem d_Mod_pin_93 : decode c_Mod_pin 93 = .ok (.iadd, 1) := by decide +kernel
theorem d_Mod_pin_94 : decode c_Mod_pin 94 = .ok (.laload, 1) := by decide +kernel
theorem d_Mod_pin_95 : decode c_Mod_pin 95 = .ok (.lload 4, 2) := by decide +kernel
theorem d_Mod_pin_97 : decode c_Mod_pin 97 = .ok (.lcmp, 1) := by decide +kernel
theorem d_Mod_pin_98 : decode c_Mod_pin 98 = .ok (.ifCond .ne 5, 3) := by decide +kernel
theorem d_Mod_pin_101 : decode c_Mod_pin 101 = .ok (.iconst (-1), 1) := by decide +kernel
theorem d_Mod_pin_102 : decode c_Mod_pin 102 = .ok (.ireturn, 1) := by decide +kernel
theorem d_Mod_pin_103 : decode c_Mod_pin 103 = .ok (.iinc 7 1, 3) := by decide +kernel
theorem d_Mod_pin_106 : decode c_Mod_pin 106 = .ok (.goto (-68), 3) := by decide +kernel
theorem d_Mod_pin_109 : decode c_Mod_pin 109 = .ok (.aload_n 0, 1) := by decide +kernel
theorem d_Mod_pin_110 : decode c_Mod_pin 110 = .ok (.getfield 42, 3) := by decide +kernel
theorem d_Mod_pin_113 : decode c_Mod_pin 113 = .ok (.aload_n 0, 1) := by decide +kernel
theorem d_Mod_pin_114 : decode c_Mod_pin 114 = .ok (.getfield 121, 3) := by decide +kernel
theorem d_Mod_pin_117 : decode c_Mod_pin 117 = .ok (.iload_n 1, 1) := by decide +kernel
theorem d_Mod_pin_118 : decode c_Mod_pin 118 = .ok (.iastore, 1) := by decide +kernel
theorem d_Mod_pin_119 : decode c_Mod_pin 119 = .ok (.aload_n 0, 1) := by decide +kernel
theorem d_Mod_pin_120 : decode c_Mod_pin 120 = .ok (.getfield 45, 3) := by decide +kernel
theorem d_Mod_pin_123 : decode c_Mod_pin 123 = .ok (.aload_n 0, 1) := by decide +kernel
theorem d_Mod_pin_124 : decode c_Mod_pin 124 = .ok (.getfield 121, 3) := by decide +kernel
theorem d_Mod_pin_127 : decode c_Mod_pin 127 = .ok (.iload 6, 2) := by decide +kernel
theorem d_Mod_pin_129 : decode c_Mod_pin 129 = .ok (.iastore, 1) := by decide +kernel
theorem d_Mod_pin_130 : decode c_Mod_pin 130 = .ok (.aload_n 0, 1) := by decide +kernel
theorem d_Mod_pin_131 : decode c_Mod_pin 131 = .ok (.getfield 48, 3) := by decide +kernel
theorem d_Mod_pin_134 : decode c_Mod_pin 134 = .ok (.iconst 2, 1) := by decide +kernel
theorem d_Mod_pin_135 : decode c_Mod_pin 135 = .ok (.aload_n 0, 1) := by decide +kernel
theorem d_Mod_pin_136 : decode c_Mod_pin 136 = .ok (.getfield 121, 3) := by decide +kernel
theorem d_Mod_pin_139 : decode c_Mod_pin 139 = .ok (.imul, 1) := by decide +kernel
theorem d_Mod_pin_140 : decode c_Mod_pin 140 = .ok (.lload_n 2, 1) := by decide +kernel
theorem d_Mod_pin_141 : decode c_Mod_pin 141 = .ok (.lastore, 1) := by decide +kernel
theorem d_Mod_pin_142 : decode c_Mod_pin 142 = .ok (.aload_n 0, 1) := by decide +kernel
theorem d_Mod_pin_143 : decode c_Mod_pin 143 = .ok (.getfield 48, 3) := by decide +kernel
theorem d_Mod_pin_146 : decode c_Mod_pin 146 = .ok (.iconst 2, 1) := by decide +kernel
theorem d_Mod_pin_147 : decode c_Mod_pin 147 = .ok (.aload_n 0, 1) := by decide +kernel
theorem d_Mod_pin_148 : decode c_Mod_pin 148 = .ok (.getfield 121, 3) := by decide +kernel
theorem d_Mod_pin_151 : decode c_Mod_pin 151 = .ok (.imul, 1) := by decide +kernel
theorem d_Mod_pin_152 : decode c_Mod_pin 152 = .ok (.iconst 1, 1) := by decide +kernel
theorem d_Mod_pin_153 : decode c_Mod_pin 153 = .ok (.iadd, 1) := by decide +kernel
theorem d_Mod_pin_154 : decode c_Mod_pin 154 = .ok (.lload 4, 2) := by decide +kernel
theorem d_Mod_pin_156 : decode c_Mod_pin 156 = .ok (.lastore, 1) := by decide +kernel
theorem d_Mod_pin_157 : decode c_Mod_pin 157 = .ok (.aload_n 0, 1) := by decide +kernel
theorem d_Mod_pin_158 : decode c_Mod_pin 158 = .ok (.dup, 1) := by decide +kernel
theorem d_Mod_pin_159 : decode c_Mod_pin 159 = .ok (.getfield 121, 3) := by decide +kernel
theorem d_Mod_pin_162 : decode c_Mod_pin 162 = .ok (.iconst 1, 1) := by decide +kernel
theorem d_Mod_pin_163 : decode c_Mod_pin 163 = .ok (.iadd, 1) := by decide +kernel
theorem d_Mod_pin_164 : decode c_Mod_pin 164 = .ok (.putfield 121, 3) := by decide +kernel
theorem d_Mod_pin_167 : decode c_Mod_pin 167 = .ok (.aload_n 0, 1) := by decide +kernel
theorem d_Mod_pin_168 : decode c_Mod_pin 168 = .ok (.invokevirtual 174, 3) := by decide +kernel
theorem d_Mod_pin_171 : decode c_Mod_pin 171 = .ok (.aload_n 0, 1) := by decide +kernel
theorem d_Mod_pin_172 : decode c_Mod_pin 172 = .ok (.getfield 121, 3) := by decide +kernel
theorem d_Mod_pin_175 : decode c_Mod_pin 175 = .ok (.iconst 1, 1) := by decide +kernel
theorem d_Mod_pin_176 : decode c_Mod_pin 176 = .ok (.isub, 1) := by decide +kernel
theorem d_Mod_pin_177 : decode c_Mod_pin 177 = .ok (.ireturn, 1) := by decide +kernel
abbrev c_Mod_port : ByteArray := prog_10_method_29_code
def y_Mod_port : MethodName := ⟨"NetJoinsModel", "port", "(III)Z"⟩
theorem ok_Mod_port : vOK y_Mod_port c_Mod_port 6 (some .boolean) 3 := ⟨kw_1343, kw_1341, kw_1342, kw_8, by decide +kernel⟩
theorem d_Mod_port_0 : decode c_Mod_port 0 = .ok (.aload_n 0, 1) := by decide +kernel
theorem d_Mod_port_1 : decode c_Mod_port 1 = .ok (.iload_n 1, 1) := by decide +kernel
theorem d_Mod_port_2 : decode c_Mod_port 2 = .ok (.invokevirtual 89, 3) := by decide +kernel
theorem d_Mod_port_5 : decode c_Mod_port 5 = .ok (.ifCond .eq 34, 3) := by decide +kernel
theorem d_Mod_port_8 : decode c_Mod_port 8 = .ok (.iload_n 2, 1) := by decide +kernel
theorem d_Mod_port_9 : decode c_Mod_port 9 = .ok (.ifCond .lt 30, 3) := by decide +kernel
theorem d_Mod_port_12 : decode c_Mod_port 12 = .ok (.iload_n 2, 1) := by decide +kernel
theorem d_Mod_port_13 : decode c_Mod_port 13 = .ok (.aload_n 0, 1) := by decide +kernel
theorem d_Mod_port_14 : decode c_Mod_port 14 = .ok (.getfield 118, 3) := by decide +kernel
theorem d_Mod_port_17 : decode c_Mod_port 17 = .ok (.if_icmp .ge 22, 3) := by decide +kernel
theorem d_Mod_port_20 : decode c_Mod_port 20 = .ok (.aload_n 0, 1) := by decide +kernel
theorem d_Mod_port_21 : decode c_Mod_port 21 = .ok (.getfield 33, 3) := by decide +kernel
theorem d_Mod_port_24 : decode c_Mod_port 24 = .ok (.iload_n 2, 1) := by decide +kernel
theorem d_Mod_port_25 : decode c_Mod_port 25 = .ok (.iaload, 1) := by decide +kernel
theorem d_Mod_port_26 : decode c_Mod_port 26 = .ok (.aload_n 0, 1) := by decide +kernel
theorem d_Mod_port_27 : decode c_Mod_port 27 = .ok (.getfield 13, 3) := by decide +kernel
theorem d_Mod_port_30 : decode c_Mod_port 30 = .ok (.iload_n 1, 1) := by decide +kernel
theorem d_Mod_port_31 : decode c_Mod_port 31 = .ok (.iaload, 1) := by decide +kernel
theorem d_Mod_port_32 : decode c_Mod_port 32 = .ok (.if_icmp .ne 7, 3) := by decide +kernel
theorem d_Mod_port_35 : decode c_Mod_port 35 = .ok (.iconst 1, 1) := by decide +kernel
theorem d_Mod_port_36 : decode c_Mod_port 36 = .ok (.goto 4, 3) := by decide +kernel
theorem d_Mod_port_39 : decode c_Mod_port 39 = .ok (.iconst 0, 1) := by decide +kernel
theorem d_Mod_port_40 : decode c_Mod_port 40 = .ok (.istore 4, 2) := by decide +kernel
theorem d_Mod_port_42 : decode c_Mod_port 42 = .ok (.aload_n 0, 1) := by decide +kernel
theorem d_Mod_port_43 : decode c_Mod_port 43 = .ok (.iload 4, 2) := by decide +kernel
theorem d_Mod_port_45 : decode c_Mod_port 45 = .ok (.ifCond .ne 7, 3) := by decide +kernel
theorem d_Mod_port_48 : decode c_Mod_port 48 = .ok (.iconst 1, 1) := by decide +kernel
theorem d_Mod_port_49 : decode c_Mod_port 49 = .ok (.goto 29, 3) := by decide +kernel
theorem d_Mod_port_52 : decode c_Mod_port 52 = .ok (.aload_n 0, 1) := by decide +kernel
theorem d_Mod_port_53 : decode c_Mod_port 53 = .ok (.getfield 7, 3) := by decide +kernel
theorem d_Mod_port_56 : decode c_Mod_port 56 = .ok (.iload_n 1, 1) := by decide +kernel
theorem d_Mod_port_57 : decode c_Mod_port 57 = .ok (.iaload, 1) := by decide +kernel
theorem d_Mod_port_58 : decode c_Mod_port 58 = .ok (.iconst (-1), 1) := by decide +kernel
theorem d_Mod_port_59 : decode c_Mod_port 59 = .ok (.if_icmp .ne 7, 3) := by decide +kernel
theorem d_Mod_port_62 : decode c_Mod_port 62 = .ok (.iconst 2, 1) := by decide +kernel
theorem d_Mod_port_63 : decode c_Mod_port 63 = .ok (.goto 15, 3) := by decide +kernel
theorem d_Mod_port_66 : decode c_Mod_port 66 = .ok (.iload_n 3, 1) := by decide +kernel
theorem d_Mod_port_67 : decode c_Mod_port 67 = .ok (.invokestatic 185, 3) := by decide +kernel
theorem d_Mod_port_70 : decode c_Mod_port 70 = .ok (.ifCond .eq 7, 3) := by decide +kernel
theorem d_Mod_port_73 : decode c_Mod_port 73 = .ok (.iconst 0, 1) := by decide +kernel
theorem d_Mod_port_74 : decode c_Mod_port 74 = .ok (.goto 4, 3) := by decide +kernel
theorem d_Mod_port_77 : decode c_Mod_port 77 = .ok (.iconst 3, 1) := by decide +kernel
theorem d_Mod_port_78 : decode c_Mod_port 78 = .ok (.putfield 78, 3) := by decide +kernel
theorem d_Mod_port_81 : decode c_Mod_port 81 = .ok (.aload_n 0, 1) := by decide +kernel
theorem d_Mod_port_82 : decode c_Mod_port 82 = .ok (.getfield 78, 3) := by decide +kernel
theorem d_Mod_port_85 : decode c_Mod_port 85 = .ok (.ifCond .ne 12, 3) := by decide +kernel
theorem d_Mod_port_88 : decode c_Mod_port 88 = .ok (.aload_n 0, 1) := by decide +kernel
theorem d_Mod_port_89 : decode c_Mod_port 89 = .ok (.getfield 152, 3) := by decide +kernel
theorem d_Mod_port_92 : decode c_Mod_port 92 = .ok (.bipush 30, 2) := by decide +kernel
theorem d_Mod_port_94 : decode c_Mod_port 94 = .ok (.if_icmp .ne 5, 3) := by decide +kernel
theorem d_Mod_port_97 : decode c_Mod_port 97 = .ok (.iconst 0, 1) := by decide +kernel
theorem d_Mod_port_98 : decode c_Mod_port 98 = .ok (.ireturn, 1) := by decide +kernel
theorem d_Mod_port_99 : decode c_Mod_port 99 = .ok (.iconst 0, 1) := by decide +kernel
theorem d_Mod_port_100 : decode c_Mod_port 100 = .ok (.istore 5, 2) := by decide +kernel
theorem d_Mod_port_102 : decode c_Mod_port 102 = .ok (.iload 5, 2) := by decide +kernel
theorem d_Mod_port_104 : decode c_Mod_port 104 = .ok (.aload_n 0, 1) := by decide +kernel
theorem d_Mod_port_105 : decode c_Mod_port 105 = .ok (.getfield 152, 3) := by decide +kernel
theorem d_Mod_port_108 : decode c_Mod_port 108 = .ok (.if_icmp .ge 54, 3) := by decide +kernel
theorem d_Mod_port_111 : decode c_Mod_port 111 = .ok (.aload_n 0, 1) := by decide +kernel
theorem d_Mod_port_112 : decode c_Mod_port 112 = .ok (.getfield 54, 3) := by decide +kernel
theorem d_Mod_port_115 : decode c_Mod_port 115 = .ok (.iconst 3, 1) := by decide +kernel
theorem d_Mod_port_116 : decode c_Mod_port 116 = .ok (.iload 5, 2) := by decide +kernel
theorem d_Mod_port_118 : decode c_Mod_port 118 = .ok (.imul, 1) := by decide +kernel
theorem d_Mod_port_119 : decode c_Mod_port 119 = .ok (.iaload, 1) := by decide +kernel
theorem d_Mod_port_120 : decode c_Mod_port 120 = .ok (.iload_n 1, 1) := by decide +kernel
theorem d_Mod_port_121 : decode c_Mod_port 121 = .ok (.if_icmp .ne 35, 3) := by decide +kernel
theorem d_Mod_port_124 : decode c_Mod_port 124 = .ok (.aload_n 0, 1) := by decide +kernel
theorem d_Mod_port_125 : decode c_Mod_port 125 = .ok (.getfield 54, 3) := by decide +kernel
theorem d_Mod_port_128 : decode c_Mod_port 128 = .ok (.iconst 3, 1) := by decide +kernel
theorem d_Mod_port_129 : decode c_Mod_port 129 = .ok (.iload 5, 2) := by decide +kernel
theorem d_Mod_port_131 : decode c_Mod_port 131 = .ok (.imul, 1) := by decide +kernel
theorem d_Mod_port_132 : decode c_Mod_port 132 = .ok (.iconst 1, 1) := by decide +kernel
theorem d_Mod_port_133 : decode c_Mod_port 133 = .ok (.iadd, 1) := by decide +kernel
theorem d_Mod_port_134 : decode c_Mod_port 134 = .ok (.iaload, 1) := by decide +kernel
theorem d_Mod_port_135 : decode c_Mod_port 135 = .ok (.iload_n 2, 1) := by decide +kernel
theorem d_Mod_port_136 : decode c_Mod_port 136 = .ok (.if_icmp .ne 20, 3) := by decide +kernel
theorem d_Mod_port_139 : decode c_Mod_port 139 = .ok (.aload_n 0, 1) := by decide +kernel
theorem d_Mod_port_140 : decode c_Mod_port 140 = .ok (.getfield 54, 3) := by decide +kernel
theorem d_Mod_port_143 : decode c_Mod_port 143 = .ok (.iconst 3, 1) := by decide +kernel
theorem d_Mod_port_144 : decode c_Mod_port 144 = .ok (.iload 5, 2) := by decide +kernel
theorem d_Mod_port_146 : decode c_Mod_port 146 = .ok (.imul, 1) := by decide +kernel
theorem d_Mod_port_147 : decode c_Mod_port 147 = .ok (.iconst 2, 1) := by decide +kernel
theorem d_Mod_port_148 : decode c_Mod_port 148 = .ok (.iadd, 1) := by decide +kernel
theorem d_Mod_port_149 : decode c_Mod_port 149 = .ok (.iaload, 1) := by decide +kernel
theorem d_Mod_port_150 : decode c_Mod_port 150 = .ok (.iload_n 3, 1) := by decide +kernel
theorem d_Mod_port_151 : decode c_Mod_port 151 = .ok (.if_icmp .ne 5, 3) := by decide +kernel
theorem d_Mod_port_154 : decode c_Mod_port 154 = .ok (.iconst 0, 1) := by decide +kernel
theorem d_Mod_port_155 : decode c_Mod_port 155 = .ok (.ireturn, 1) := by decide +kernel
theorem d_Mod_port_156 : decode c_Mod_port 156 = .ok (.iinc 5 1, 3) := by decide +kernel
theorem d_Mod_port_159 : decode c_Mod_port 159 = .ok (.goto (-57), 3) := by decide +kernel
theorem d_Mod_port_162 : decode c_Mod_port 162 = .ok (.aload_n 0, 1) := by decide +kernel
theorem d_Mod_port_163 : decode c_Mod_port 163 = .ok (.getfield 54, 3) := by decide +kernel
theorem d_Mod_port_166 : decode c_Mod_port 166 = .ok (.iconst 3, 1) := by decide +kernel
theorem d_Mod_port_167 : decode c_Mod_port 167 = .ok (.aload_n 0, 1) := by decide +kernel
theorem d_Mod_port_168 : decode c_Mod_port 168 = .ok (.getfield 152, 3) := by decide +kernel
theorem d_Mod_port_171 : decode c_Mod_port 171 = .ok (.imul, 1) := by decide +kernel
theorem d_Mod_port_172 : decode c_Mod_port 172 = .ok (.iload_n 1, 1) := by decide +kernel
theorem d_Mod_port_173 : decode c_Mod_port 173 = .ok (.iastore, 1) := by decide +kernel
theorem d_Mod_port_174 : decode c_Mod_port 174 = .ok (.aload_n 0, 1) := by decide +kernel
theorem d_Mod_port_175 : decode c_Mod_port 175 = .ok (.getfield 54, 3) := by decide +kernel
theorem d_Mod_port_178 : decode c_Mod_port 178 = .ok (.iconst 3, 1) := by decide +kernel
theorem d_Mod_port_179 : decode c_Mod_port 179 = .ok (.aload_n 0, 1) := by decide +kernel
theorem d_Mod_port_180 : decode c_Mod_port 180 = .ok (.getfield 152, 3) := by decide +kernel
theorem d_Mod_port_183 : decode c_Mod_port 183 = .ok (.imul, 1) := by decide +kernel
theorem d_Mod_port_184 : decode c_Mod_port 184 = .ok (.iconst 1, 1) := by decide +kernel
theorem d_Mod_port_185 : decode c_Mod_port 185 = .ok (.iadd, 1) := by decide +kernel
theorem d_Mod_port_186 : decode c_Mod_port 186 = .ok (.iload_n 2, 1) := by decide +kernel
theorem d_Mod_port_187 : decode c_Mod_port 187 = .ok (.iastore, 1) := by decide +kernel
theorem d_Mod_port_188 : decode c_Mod_port 188 = .ok (.aload_n 0, 1) := by decide +kernel
theorem d_Mod_port_189 : decode c_Mod_port 189 = .ok (.getfield 54, 3) := by decide +kernel
theorem d_Mod_port_192 : decode c_Mod_port 192 = .ok (.iconst 3, 1) := by decide +kernel
theorem d_Mod_port_193 : decode c_Mod_port 193 = .ok (.aload_n 0, 1) := by decide +kernel
theorem d_Mod_port_194 : decode c_Mod_port 194 = .ok (.getfield 152, 3) := by decide +kernel
theorem d_Mod_port_197 : decode c_Mod_port 197 = .ok (.imul, 1) := by decide +kernel
theorem d_Mod_port_198 : decode c_Mod_port 198 = .ok (.iconst 2, 1) := by decide +kernel
theorem d_Mod_port_199 : decode c_Mod_port 199 = .ok (.iadd, 1) := by decide +kernel
theorem d_Mod_port_200 : decode c_Mod_port 200 = .ok (.iload_n 3, 1) := by decide +kernel
theorem d_Mod_port_201 : decode c_Mod_port 201 = .ok (.iastore, 1) := by decide +kernel
theorem d_Mod_port_202 : decode c_Mod_port 202 = .ok (.aload_n 0, 1) := by decide +kernel
theorem d_Mod_port_203 : decode c_Mod_port 203 = .ok (.dup, 1) := by decide +kernel
theorem d_Mod_port_204 : decode c_Mod_port 204 = .ok (.getfield 152, 3) := by decide +kernel
theorem d_Mod_port_207 : decode c_Mod_port 207 = .ok (.iconst 1, 1) := by decide +kernel
theorem d_Mod_port_208 : decode c_Mod_port 208 = .ok (.iadd, 1) := by decide +kernel
theorem d_Mod_port_209 : decode c_Mod_port 209 = .ok (.putfield 152, 3) := by decide +kernel
theorem d_Mod_port_212 : decode c_Mod_port 212 = .ok (.aload_n 0, 1) := by decide +kernel
theorem d_Mod_port_213 : decode c_Mod_port 213 = .ok (.invokevirtual 174, 3) := by decide +kernel
theorem d_Mod_port_216 : decode c_Mod_port 216 = .ok (.iconst 1, 1) := by decide +kernel
theorem d_Mod_port_217 : decode c_Mod_port 217 = .ok (.ireturn, 1) := by decide +kernel
abbrev c_Mod_bus : ByteArray := prog_10_method_30_code
def y_Mod_bus : MethodName := ⟨"NetJoinsModel", "bus", "(IIII)Z"⟩
theorem ok_Mod_bus : vOK y_Mod_bus c_Mod_bus 6 (some .boolean) 4 := ⟨kw_1347, kw_1345, kw_1346, kw_8, by decide +kernel⟩
theorem d_Mod_bus_0 : decode c_Mod_bus 0 = .ok (.aload_n 0, 1) := by decide +kernel
theorem d_Mod_bus_1 : decode c_Mod_bus 1 = .ok (.aload_n 0, 1) := by decide +kernel
theorem d_Mod_bus_2 : decode c_Mod_bus 2 = .ok (.iload_n 1, 1) := by decide +kernel
theorem d_Mod_bus_3 : decode c_Mod_bus 3 = .ok (.iload_n 2, 1) := by decide +kernel
theorem d_Mod_bus_4 : decode c_Mod_bus 4 = .ok (.invokestatic 185, 3) := by decide +kernel
theorem d_Mod_bus_7 : decode c_Mod_bus 7 = .ok (.ifCond .eq 22, 3) := by decide +kernel
theorem d_Mod_bus_10 : decode c_Mod_bus 10 = .ok (.iload_n 3, 1) := by decide +kernel
theorem d_Mod_bus_11 : decode c_Mod_bus 11 = .ok (.invokestatic 185, 3) := by decide +kernel
theorem d_Mod_bus_14 : decode c_Mod_bus 14 = .ok (.ifCond .eq 15, 3) := by decide +kernel
theorem d_Mod_bus_17 : decode c_Mod_bus 17 = .ok (.iload 4, 2) := by decide +kernel
theorem d_Mod_bus_19 : decode c_Mod_bus 19 = .ok (.invokestatic 185, 3) := by decide +kernel
theorem d_Mod_bus_22 : decode c_Mod_bus 22 = .ok (.ifCond .eq 7, 3) := by decide +kernel
theorem d_Mod_bus_25 : decode c_Mod_bus 25 = .ok (.iconst 1, 1) := by decide +kernel
theorem d_Mod_bus_26 : decode c_Mod_bus 26 = .ok (.goto 4, 3) := by decide +kernel
theorem d_Mod_bus_29 : decode c_Mod_bus 29 = .ok (.iconst 0, 1) := by decide +kernel
theorem d_Mod_bus_30 : decode c_Mod_bus 30 = .ok (.invokevirtual 181, 3) := by decide +kernel
theorem d_Mod_bus_33 : decode c_Mod_bus 33 = .ok (.putfield 78, 3) := by decide +kernel
theorem d_Mod_bus_36 : decode c_Mod_bus 36 = .ok (.aload_n 0, 1) := by decide +kernel
theorem d_Mod_bus_37 : decode c_Mod_bus 37 = .ok (.getfield 78, 3) := by decide +kernel
theorem d_Mod_bus_40 : decode c_Mod_bus 40 = .ok (.ifCond .ne 12, 3) := by decide +kernel
theorem d_Mod_bus_43 : decode c_Mod_bus 43 = .ok (.aload_n 0, 1) := by decide +kernel
theorem d_Mod_bus_44 : decode c_Mod_bus 44 = .ok (.getfield 145, 3) := by decide +kernel
theorem d_Mod_bus_47 : decode c_Mod_bus 47 = .ok (.bipush 16, 2) := by decide +kernel
theorem d_Mod_bus_49 : decode c_Mod_bus 49 = .ok (.if_icmp .ne 5, 3) := by decide +kernel
theorem d_Mod_bus_52 : decode c_Mod_bus 52 = .ok (.iconst 0, 1) := by decide +kernel
theorem d_Mod_bus_53 : decode c_Mod_bus 53 = .ok (.ireturn, 1) := by decide +kernel
theorem d_Mod_bus_54 : decode c_Mod_bus 54 = .ok (.iconst 0, 1) := by decide +kernel
theorem d_Mod_bus_55 : decode c_Mod_bus 55 = .ok (.istore 5, 2) := by decide +kernel
theorem d_Mod_bus_57 : decode c_Mod_bus 57 = .ok (.iload 5, 2) := by decide +kernel
theorem d_Mod_bus_59 : decode c_Mod_bus 59 = .ok (.aload_n 0, 1) := by decide +kernel
theorem d_Mod_bus_60 : decode c_Mod_bus 60 = .ok (.getfield 145, 3) := by decide +kernel
theorem d_Mod_bus_63 : decode c_Mod_bus 63 = .ok (.if_icmp .ge 70, 3) := by decide +kernel
theorem d_Mod_bus_66 : decode c_Mod_bus 66 = .ok (.aload_n 0, 1) := by decide +kernel
theorem d_Mod_bus_67 : decode c_Mod_bus 67 = .ok (.getfield 57, 3) := by decide +kernel
theorem d_Mod_bus_70 : decode c_Mod_bus 70 = .ok (.iconst 4, 1) := by decide +kernel
theorem d_Mod_bus_71 : decode c_Mod_bus 71 = .ok (.iload 5, 2) := by decide +kernel
theorem d_Mod_bus_73 : decode c_Mod_bus 73 = .ok (.imul, 1) := by decide +kernel
theorem d_Mod_bus_74 : decode c_Mod_bus 74 = .ok (.iaload, 1) := by decide +kernel
theorem d_Mod_bus_75 : decode c_Mod_bus 75 = .ok (.iload_n 1, 1) := by decide +kernel
theorem d_Mod_bus_76 : decode c_Mod_bus 76 = .ok (.if_icmp .ne 51, 3) := by decide +kernel
theorem d_Mod_bus_79 : decode c_Mod_bus 79 = .ok (.aload_n 0, 1) := by decide +kernel
theorem d_Mod_bus_80 : decode c_Mod_bus 80 = .ok (.getfield 57, 3) := by decide +kernel
theorem d_Mod_bus_83 : decode c_Mod_bus 83 = .ok (.iconst 4, 1) := by decide +kernel
theorem d_Mod_bus_84 : decode c_Mod_bus 84 = .ok (.iload 5, 2) := by decide +kernel
theorem d_Mod_bus_86 : decode c_Mod_bus 86 = .ok (.imul, 1) := by decide +kernel
theorem d_Mod_bus_87 : decode c_Mod_bus 87 = .ok (.iconst 1, 1) := by decide +kernel
theorem d_Mod_bus_88 : decode c_Mod_bus 88 = .ok (.iadd, 1) := by decide +kernel
theorem d_Mod_bus_89 : decode c_Mod_bus 89 = .ok (.iaload, 1) := by decide +kernel
theorem d_Mod_bus_90 : decode c_Mod_bus 90 = .ok (.iload_n 2, 1) := by decide +kernel
theorem d_Mod_bus_91 : decode c_Mod_bus 91 = .ok (.if_icmp .ne 36, 3) := by decide +kernel
theorem d_Mod_bus_94 : decode c_Mod_bus 94 = .ok (.aload_n 0, 1) := by decide +kernel
theorem d_Mod_bus_95 : decode c_Mod_bus 95 = .ok (.getfield 57, 3) := by decide +kernel
theorem d_Mod_bus_98 : decode c_Mod_bus 98 = .ok (.iconst 4, 1) := by decide +kernel
theorem d_Mod_bus_99 : decode c_Mod_bus 99 = .ok (.iload 5, 2) := by decide +kernel
theorem d_Mod_bus_101 : decode c_Mod_bus 101 = .ok (.imul, 1) := by decide +kernel
theorem d_Mod_bus_102 : decode c_Mod_bus 102 = .ok (.iconst 2, 1) := by decide +kernel
theorem d_Mod_bus_103 : decode c_Mod_bus 103 = .ok (.iadd, 1) := by decide +kernel
theorem d_Mod_bus_104 : decode c_Mod_bus 104 = .ok (.iaload, 1) := by decide +kernel
theorem d_Mod_bus_105 : decode c_Mod_bus 105 = .ok (.iload_n 3, 1) := by decide +kernel
theorem d_Mod_bus_106 : decode c_Mod_bus 106 = .ok (.if_icmp .ne 21, 3) := by decide +kernel
theorem d_Mod_bus_109 : decode c_Mod_bus 109 = .ok (.aload_n 0, 1) := by decide +kernel
theorem d_Mod_bus_110 : decode c_Mod_bus 110 = .ok (.getfield 57, 3) := by decide +kernel
theorem d_Mod_bus_113 : decode c_Mod_bus 113 = .ok (.iconst 4, 1) := by decide +kernel
theorem d_Mod_bus_114 : decode c_Mod_bus 114 = .ok (.iload 5, 2) := by decide +kernel
theorem d_Mod_bus_116 : decode c_Mod_bus 116 = .ok (.imul, 1) := by decide +kernel
theorem d_Mod_bus_117 : decode c_Mod_bus 117 = .ok (.iconst 3, 1) := by decide +kernel
theorem d_Mod_bus_118 : decode c_Mod_bus 118 = .ok (.iadd, 1) := by decide +kernel
theorem d_Mod_bus_119 : decode c_Mod_bus 119 = .ok (.iaload, 1) := by decide +kernel
theorem d_Mod_bus_120 : decode c_Mod_bus 120 = .ok (.iload 4, 2) := by decide +kernel
theorem d_Mod_bus_122 : decode c_Mod_bus 122 = .ok (.if_icmp .ne 5, 3) := by decide +kernel
theorem d_Mod_bus_125 : decode c_Mod_bus 125 = .ok (.iconst 0, 1) := by decide +kernel
theorem d_Mod_bus_126 : decode c_Mod_bus 126 = .ok (.ireturn, 1) := by decide +kernel
theorem d_Mod_bus_127 : decode c_Mod_bus 127 = .ok (.iinc 5 1, 3) := by decide +kernel
theorem d_Mod_bus_130 : decode c_Mod_bus 130 = .ok (.goto (-73), 3) := by decide +kernel
theorem d_Mod_bus_133 : decode c_Mod_bus 133 = .ok (.aload_n 0, 1) := by decide +kernel
theorem d_Mod_bus_134 : decode c_Mod_bus 134 = .ok (.getfield 57, 3) := by decide +kernel
theorem d_Mod_bus_137 : decode c_Mod_bus 137 = .ok (.iconst 4, 1) := by decide +kernel
theorem d_Mod_bus_138 : decode c_Mod_bus 138 = .ok (.aload_n 0, 1) := by decide +kernel
theorem d_Mod_bus_139 : decode c_Mod_bus 139 = .ok (.getfield 145, 3) := by decide +kernel
theorem d_Mod_bus_142 : decode c_Mod_bus 142 = .ok (.imul, 1) := by decide +kernel
theorem d_Mod_bus_143 : decode c_Mod_bus 143 = .ok (.iload_n 1, 1) := by decide +kernel
theorem d_Mod_bus_144 : decode c_Mod_bus 144 = .ok (.iastore, 1) := by decide +kernel
theorem d_Mod_bus_145 : decode c_Mod_bus 145 = .ok (.aload_n 0, 1) := by decide +kernel
theorem d_Mod_bus_146 : decode c_Mod_bus 146 = .ok (.getfield 57, 3) := by decide +kernel
theorem d_Mod_bus_149 : decode c_Mod_bus 149 = .ok (.iconst 4, 1) := by decide +kernel
theorem d_Mod_bus_150 : decode c_Mod_bus 150 = .ok (.aload_n 0, 1) := by decide +kernel
theorem d_Mod_bus_151 : decode c_Mod_bus 151 = .ok (.getfield 145, 3) := by decide +kernel
theorem d_Mod_bus_154 : decode c_Mod_bus 154 = .ok (.imul, 1) := by decide +kernel
theorem d_Mod_bus_155 : decode c_Mod_bus 155 = .ok (.iconst 1, 1) := by decide +kernel
theorem d_Mod_bus_156 : decode c_Mod_bus 156 = .ok (.iadd, 1) := by decide +kernel
theorem d_Mod_bus_157 : decode c_Mod_bus 157 = .ok (.iload_n 2, 1) := by decide +kernel
theorem d_Mod_bus_158 : decode c_Mod_bus 158 = .ok (.iastore, 1) := by decide +kernel
theorem d_Mod_bus_159 : decode c_Mod_bus 159 = .ok (.aload_n 0, 1) := by decide +kernel
theorem d_Mod_bus_160 : decode c_Mod_bus 160 = .ok (.getfield 57, 3) := by decide +kernel
theorem d_Mod_bus_163 : decode c_Mod_bus 163 = .ok (.iconst 4, 1) := by decide +kernel
theorem d_Mod_bus_164 : decode c_Mod_bus 164 = .ok (.aload_n 0, 1) := by decide +kernel
theorem d_Mod_bus_165 : decode c_Mod_bus 165 = .ok (.getfield 145, 3) := by decide +kernel
theorem d_Mod_bus_168 : decode c_Mod_bus 168 = .ok (.imul, 1) := by decide +kernel
theorem d_Mod_bus_169 : decode c_Mod_bus 169 = .ok (.iconst 2, 1) := by decide +kernel
theorem d_Mod_bus_170 : decode c_Mod_bus 170 = .ok (.iadd, 1) := by decide +kernel
theorem d_Mod_bus_171 : decode c_Mod_bus 171 = .ok (.iload_n 3, 1) := by decide +kernel
theorem d_Mod_bus_172 : decode c_Mod_bus 172 = .ok (.iastore, 1) := by decide +kernel
theorem d_Mod_bus_173 : decode c_Mod_bus 173 = .ok (.aload_n 0, 1) := by decide +kernel
theorem d_Mod_bus_174 : decode c_Mod_bus 174 = .ok (.getfield 57, 3) := by decide +kernel
theorem d_Mod_bus_177 : decode c_Mod_bus 177 = .ok (.iconst 4, 1) := by decide +kernel
theorem d_Mod_bus_178 : decode c_Mod_bus 178 = .ok (.aload_n 0, 1) := by decide +kernel
theorem d_Mod_bus_179 : decode c_Mod_bus 179 = .ok (.getfield 145, 3) := by decide +kernel
theorem d_Mod_bus_182 : decode c_Mod_bus 182 = .ok (.imul, 1) := by decide +kernel
theorem d_Mod_bus_183 : decode c_Mod_bus 183 = .ok (.iconst 3, 1) := by decide +kernel
theorem d_Mod_bus_184 : decode c_Mod_bus 184 = .ok (.iadd, 1) := by decide +kernel
theorem d_Mod_bus_185 : decode c_Mod_bus 185 = .ok (.iload 4, 2) := by decide +kernel
theorem d_Mod_bus_187 : decode c_Mod_bus 187 = .ok (.iastore, 1) := by decide +kernel
theorem d_Mod_bus_188 : decode c_Mod_bus 188 = .ok (.aload_n 0, 1) := by decide +kernel
theorem d_Mod_bus_189 : decode c_Mod_bus 189 = .ok (.dup, 1) := by decide +kernel
theorem d_Mod_bus_190 : decode c_Mod_bus 190 = .ok (.getfield 145, 3) := by decide +kernel
theorem d_Mod_bus_193 : decode c_Mod_bus 193 = .ok (.iconst 1, 1) := by decide +kernel
theorem d_Mod_bus_194 : decode c_Mod_bus 194 = .ok (.iadd, 1) := by decide +kernel
theorem d_Mod_bus_195 : decode c_Mod_bus 195 = .ok (.putfield 145, 3) := by decide +kernel
theorem d_Mod_bus_198 : decode c_Mod_bus 198 = .ok (.aload_n 0, 1) := by decide +kernel
theorem d_Mod_bus_199 : decode c_Mod_bus 199 = .ok (.invokevirtual 174, 3) := by decide +kernel
theorem d_Mod_bus_202 : decode c_Mod_bus 202 = .ok (.iconst 1, 1) := by decide +kernel
theorem d_Mod_bus_203 : decode c_Mod_bus 203 = .ok (.ireturn, 1) := by decide +kernel
abbrev c_Mod_drop : ByteArray := prog_10_method_31_code
def y_Mod_drop : MethodName := ⟨"NetJoinsModel", "drop", "(I)I"⟩
theorem ok_Mod_drop : vOK y_Mod_drop c_Mod_drop 2 (some .int) 1 := ⟨kw_1351, kw_1349, kw_1350, kw_8, by decide +kernel⟩
theorem d_Mod_drop_0 : decode c_Mod_drop 0 = .ok (.aload_n 0, 1) := by decide +kernel
theorem d_Mod_drop_1 : decode c_Mod_drop 1 = .ok (.iload_n 1, 1) := by decide +kernel
theorem d_Mod_drop_2 : decode c_Mod_drop 2 = .ok (.ifCond .lt 24, 3) := by decide +kernel
theorem d_Mod_drop_5 : decode c_Mod_drop 5 = .ok (.iload_n 1, 1) := by decide +kernel
theorem d_Mod_drop_6 : decode c_Mod_drop 6 = .ok (.aload_n 0, 1) := by decide +kernel
theorem d_Mod_drop_7 : decode c_Mod_drop 7 = .ok (.getfield 97, 3) := by decide +kernel
theorem d_Mod_drop_10 : decode c_Mod_drop 10 = .ok (.if_icmp .ge 16, 3) := by decide +kernel
theorem d_Mod_drop_13 : decode c_Mod_drop 13 = .ok (.aload_n 0, 1) := by decide +kernel
theorem d_Mod_drop_14 : decode c_Mod_drop 14 = .ok (.getfield 23, 3) := by decide +kernel
theorem d_Mod_drop_17 : decode c_Mod_drop 17 = .ok (.iload_n 1, 1) := by decide +kernel
theorem d_Mod_drop_18 : decode c_Mod_drop 18 = .ok (.baload, 1) := by decide +kernel
theorem d_Mod_drop_19 : decode c_Mod_drop 19 = .ok (.ifCond .ne 7, 3) := by decide +kernel
theorem d_Mod_drop_22 : decode c_Mod_drop 22 = .ok (.iconst 0, 1) := by decide +kernel
theorem d_Mod_drop_23 : decode c_Mod_drop 23 = .ok (.goto 4, 3) := by decide +kernel
theorem d_Mod_drop_26 : decode c_Mod_drop 26 = .ok (.iconst 1, 1) := by decide +kernel
theorem d_Mod_drop_27 : decode c_Mod_drop 27 = .ok (.putfield 78, 3) := by decide +kernel
theorem d_Mod_drop_30 : decode c_Mod_drop 30 = .ok (.aload_n 0, 1) := by decide +kernel
theorem d_Mod_drop_31 : decode c_Mod_drop 31 = .ok (.getfield 78, 3) := by decide +kernel
theorem d_Mod_drop_34 : decode c_Mod_drop 34 = .ok (.ifCond .eq 5, 3) := by decide +kernel
theorem d_Mod_drop_37 : decode c_Mod_drop 37 = .ok (.iconst 0, 1) := by decide +kernel
theorem d_Mod_drop_38 : decode c_Mod_drop 38 = .ok (.ireturn, 1) := by decide +kernel
theorem d_Mod_drop_39 : decode c_Mod_drop 39 = .ok (.aload_n 0, 1) := by decide +kernel
theorem d_Mod_drop_40 : decode c_Mod_drop 40 = .ok (.getfield 23, 3) := by decide +kernel
theorem d_Mod_drop_43 : decode c_Mod_drop 43 = .ok (.iload_n 1, 1) := by decide +kernel
theorem d_Mod_drop_44 : decode c_Mod_drop 44 = .ok (.iconst 1, 1) := by decide +kernel
theorem d_Mod_drop_45 : decode c_Mod_drop 45 = .ok (.bastore, 1) := by decide +kernel
theorem d_Mod_drop_46 : decode c_Mod_drop 46 = .ok (.aload_n 0, 1) := by decide +kernel
theorem d_Mod_drop_47 : decode c_Mod_drop 47 = .ok (.invokevirtual 174, 3) := by decide +kernel
theorem d_Mod_drop_50 : decode c_Mod_drop 50 = .ok (.aload_n 0, 1) := by decide +kernel
theorem d_Mod_drop_51 : decode c_Mod_drop 51 = .ok (.getfield 168, 3) := by decide +kernel
theorem d_Mod_drop_54 : decode c_Mod_drop 54 = .ok (.ireturn, 1) := by decide +kernel
