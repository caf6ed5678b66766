abbrev c_NJ_touchAnew : ByteArray := prog_1_method_50_code
def y_NJ_touchAnew : MethodName := ⟨"NetJoins", "touchAnew", "()V"⟩
theorem ok_NJ_touchAnew : vOK y_NJ_touchAnew c_NJ_touchAnew 2 none 0 := ⟨kw_305, kw_304, ks_13, kw_1, by decide +kernel⟩
theorem d_NJ_touchAnew_0 : decode c_NJ_touchAnew 0 = .ok (.aload_n 0, 1) := by decide +kernel
theorem d_NJ_touchAnew_1 : decode c_NJ_touchAnew 1 = .ok (.getfield 46, 3) := by decide +kernel
theorem d_NJ_touchAnew_4 : decode c_NJ_touchAnew 4 = .ok (.invokevirtual 402, 3) := by decide +kernel
theorem d_NJ_touchAnew_7 : decode c_NJ_touchAnew 7 = .ok (.iconst 0, 1) := by decide +kernel
theorem d_NJ_touchAnew_8 : decode c_NJ_touchAnew 8 = .ok (.istore_n 1, 1) := by decide +kernel
theorem d_NJ_touchAnew_9 : decode c_NJ_touchAnew 9 = .ok (.iload_n 1, 1) := by decide +kernel
theorem d_NJ_touchAnew_10 : decode c_NJ_touchAnew 10 = .ok (.aload_n 0, 1) := by decide +kernel
theorem d_NJ_touchAnew_11 : decode c_NJ_touchAnew 11 = .ok (.getfield 16, 3) := by decide +kernel
theorem d_NJ_touchAnew_14 : decode c_NJ_touchAnew 14 = .ok (.invokevirtual 76, 3) := by decide +kernel
theorem d_NJ_touchAnew_17 : decode c_NJ_touchAnew 17 = .ok (.if_icmp .ge 41, 3) := by decide +kernel
theorem d_NJ_touchAnew_20 : decode c_NJ_touchAnew 20 = .ok (.aload_n 0, 1) := by decide +kernel
theorem d_NJ_touchAnew_21 : decode c_NJ_touchAnew 21 = .ok (.getfield 16, 3) := by decide +kernel
theorem d_NJ_touchAnew_24 : decode c_NJ_touchAnew 24 = .ok (.iload_n 1, 1) := by decide +kernel
theorem d_NJ_touchAnew_25 : decode c_NJ_touchAnew 25 = .ok (.invokevirtual 172, 3) := by decide +kernel
theorem d_NJ_touchAnew_28 : decode c_NJ_touchAnew 28 = .ok (.checkcast 117, 3) := by decide +kernel
theorem d_NJ_touchAnew_31 : decode c_NJ_touchAnew 31 = .ok (.getfield 214, 3) := by decide +kernel
theorem d_NJ_touchAnew_34 : decode c_NJ_touchAnew 34 = .ok (.ifCond .ne 18, 3) := by decide +kernel
theorem d_NJ_touchAnew_37 : decode c_NJ_touchAnew 37 = .ok (.aload_n 0, 1) := by decide +kernel
theorem d_NJ_touchAnew_38 : decode c_NJ_touchAnew 38 = .ok (.aload_n 0, 1) := by decide +kernel
theorem d_NJ_touchAnew_39 : decode c_NJ_touchAnew 39 = .ok (.getfield 16, 3) := by decide +kernel
theorem d_NJ_touchAnew_42 : decode c_NJ_touchAnew 42 = .ok (.iload_n 1, 1) := by decide +kernel
theorem d_NJ_touchAnew_43 : decode c_NJ_touchAnew 43 = .ok (.invokevirtual 172, 3) := by decide +kernel
theorem d_NJ_touchAnew_46 : decode c_NJ_touchAnew 46 = .ok (.checkcast 117, 3) := by decide +kernel
theorem d_NJ_touchAnew_49 : decode c_NJ_touchAnew 49 = .ok (.invokevirtual 122, 3) := by decide +kernel
theorem d_NJ_touchAnew_52 : decode c_NJ_touchAnew 52 = .ok (.iinc 1 1, 3) := by decide +kernel
theorem d_NJ_touchAnew_55 : decode c_NJ_touchAnew 55 = .ok (.goto (-46), 3) := by decide +kernel
theorem d_NJ_touchAnew_58 : decode c_NJ_touchAnew 58 = .ok (.iconst 0, 1) := by decide +kernel
theorem d_NJ_touchAnew_59 : decode c_NJ_touchAnew 59 = .ok (.istore_n 1, 1) := by decide +kernel
theorem d_NJ_touchAnew_60 : decode c_NJ_touchAnew 60 = .ok (.iload_n 1, 1) := by decide +kernel
theorem d_NJ_touchAnew_61 : decode c_NJ_touchAnew 61 = .ok (.aload_n 0, 1) := by decide +kernel
theorem d_NJ_touchAnew_62 : decode c_NJ_touchAnew 62 = .ok (.getfield 19, 3) := by decide +kernel
theorem d_NJ_touchAnew_65 : decode c_NJ_touchAnew 65 = .ok (.invokevirtual 76, 3) := by decide +kernel
theorem d_NJ_touchAnew_68 : decode c_NJ_touchAnew 68 = .ok (.if_icmp .ge 24, 3) := by decide +kernel
theorem d_NJ_touchAnew_71 : decode c_NJ_touchAnew 71 = .ok (.aload_n 0, 1) := by decide +kernel
theorem d_NJ_touchAnew_72 : decode c_NJ_touchAnew 72 = .ok (.aload_n 0, 1) := by decide +kernel
theorem d_NJ_touchAnew_73 : decode c_NJ_touchAnew 73 = .ok (.getfield 19, 3) := by decide +kernel
theorem d_NJ_touchAnew_76 : decode c_NJ_touchAnew 76 = .ok (.iload_n 1, 1) := by decide +kernel
theorem d_NJ_touchAnew_77 : decode c_NJ_touchAnew 77 = .ok (.invokevirtual 172, 3) := by decide +kernel
theorem d_NJ_touchAnew_80 : decode c_NJ_touchAnew 80 = .ok (.checkcast 140, 3) := by decide +kernel
theorem d_NJ_touchAnew_83 : decode c_NJ_touchAnew 83 = .ok (.invokevirtual 145, 3) := by decide +kernel
theorem d_NJ_touchAnew_86 : decode c_NJ_touchAnew 86 = .ok (.iinc 1 1, 3) := by decide +kernel
theorem d_NJ_touchAnew_89 : decode c_NJ_touchAnew 89 = .ok (.goto (-29), 3) := by decide +kernel
theorem d_NJ_touchAnew_92 : decode c_NJ_touchAnew 92 = .ok (.iconst 0, 1) := by decide +kernel
theorem d_NJ_touchAnew_93 : decode c_NJ_touchAnew 93 = .ok (.istore_n 1, 1) := by decide +kernel
theorem d_NJ_touchAnew_94 : decode c_NJ_touchAnew 94 = .ok (.iload_n 1, 1) := by decide +kernel
theorem d_NJ_touchAnew_95 : decode c_NJ_touchAnew 95 = .ok (.aload_n 0, 1) := by decide +kernel
theorem d_NJ_touchAnew_96 : decode c_NJ_touchAnew 96 = .ok (.getfield 22, 3) := by decide +kernel
theorem d_NJ_touchAnew_99 : decode c_NJ_touchAnew 99 = .ok (.invokevirtual 76, 3) := by decide +kernel
theorem d_NJ_touchAnew_102 : decode c_NJ_touchAnew 102 = .ok (.if_icmp .ge 24, 3) := by decide +kernel
theorem d_NJ_touchAnew_105 : decode c_NJ_touchAnew 105 = .ok (.aload_n 0, 1) := by decide +kernel
theorem d_NJ_touchAnew_106 : decode c_NJ_touchAnew 106 = .ok (.aload_n 0, 1) := by decide +kernel
theorem d_NJ_touchAnew_107 : decode c_NJ_touchAnew 107 = .ok (.getfield 22, 3) := by decide +kernel
theorem d_NJ_touchAnew_110 : decode c_NJ_touchAnew 110 = .ok (.iload_n 1, 1) := by decide +kernel
theorem d_NJ_touchAnew_111 : decode c_NJ_touchAnew 111 = .ok (.invokevirtual 172, 3) := by decide +kernel
theorem d_NJ_touchAnew_114 : decode c_NJ_touchAnew 114 = .ok (.checkcast 140, 3) := by decide +kernel
theorem d_NJ_touchAnew_117 : decode c_NJ_touchAnew 117 = .ok (.invokevirtual 155, 3) := by decide +kernel
theorem d_NJ_touchAnew_120 : decode c_NJ_touchAnew 120 = .ok (.iinc 1 1, 3) := by decide +kernel
theorem d_NJ_touchAnew_123 : decode c_NJ_touchAnew 123 = .ok (.goto (-29), 3) := by decide +kernel
theorem d_NJ_touchAnew_126 : decode c_NJ_touchAnew 126 = .ok (.iconst 0, 1) := by decide +kernel
theorem d_NJ_touchAnew_127 : decode c_NJ_touchAnew 127 = .ok (.istore_n 1, 1) := by decide +kernel
theorem d_NJ_touchAnew_128 : decode c_NJ_touchAnew 128 = .ok (.iload_n 1, 1) := by decide +kernel
theorem d_NJ_touchAnew_129 : decode c_NJ_touchAnew 129 = .ok (.aload_n 0, 1) := by decide +kernel
theorem d_NJ_touchAnew_130 : decode c_NJ_touchAnew 130 = .ok (.getfield 28, 3) := by decide +kernel
theorem d_NJ_touchAnew_133 : decode c_NJ_touchAnew 133 = .ok (.invokevirtual 76, 3) := by decide +kernel
theorem d_NJ_touchAnew_136 : decode c_NJ_touchAnew 136 = .ok (.if_icmp .ge 24, 3) := by decide +kernel
theorem d_NJ_touchAnew_139 : decode c_NJ_touchAnew 139 = .ok (.aload_n 0, 1) := by decide +kernel
theorem d_NJ_touchAnew_140 : decode c_NJ_touchAnew 140 = .ok (.aload_n 0, 1) := by decide +kernel
theorem d_NJ_touchAnew_141 : decode c_NJ_touchAnew 141 = .ok (.getfield 28, 3) := by decide +kernel
theorem d_NJ_touchAnew_144 : decode c_NJ_touchAnew 144 = .ok (.iload_n 1, 1) := by decide +kernel
theorem d_NJ_touchAnew_145 : decode c_NJ_touchAnew 145 = .ok (.invokevirtual 172, 3) := by decide +kernel
theorem d_NJ_touchAnew_148 : decode c_NJ_touchAnew 148 = .ok (.checkcast 140, 3) := by decide +kernel
theorem d_NJ_touchAnew_151 : decode c_NJ_touchAnew 151 = .ok (.invokevirtual 155, 3) := by decide +kernel
theorem d_NJ_touchAnew_154 : decode c_NJ_touchAnew 154 = .ok (.iinc 1 1, 3) := by decide +kernel
theorem d_NJ_touchAnew_157 : decode c_NJ_touchAnew 157 = .ok (.goto (-29), 3) := by decide +kernel
theorem d_NJ_touchAnew_160 : decode c_NJ_touchAnew 160 = .ok (.return_, 1) := by decide +kernel
abbrev c_NJ_nodeOn : ByteArray := prog_1_method_41_code
def y_NJ_nodeOn : MethodName := ⟨"NetJoins", "nodeOn", "(LNetJoins$Sheet;I)I"⟩
theorem ok_NJ_nodeOn : vOK y_NJ_nodeOn c_NJ_nodeOn 4 (some .int) 2 := ⟨kw_359, kw_358, ks_20, kw_1, by decide +kernel⟩
theorem d_NJ_nodeOn_0 : decode c_NJ_nodeOn 0 = .ok (.iload_n 2, 1) := by decide +kernel
theorem d_NJ_nodeOn_1 : decode c_NJ_nodeOn 1 = .ok (.bipush 60, 2) := by decide +kernel
theorem d_NJ_nodeOn_3 : decode c_NJ_nodeOn 3 = .ok (.if_icmp .ge 12, 3) := by decide +kernel
theorem d_NJ_nodeOn_6 : decode c_NJ_nodeOn 6 = .ok (.iload_n 2, 1) := by decide +kernel
theorem d_NJ_nodeOn_7 : decode c_NJ_nodeOn 7 = .ok (.aload_n 1, 1) := by decide +kernel
theorem d_NJ_nodeOn_8 : decode c_NJ_nodeOn 8 = .ok (.getfield 365, 3) := by decide +kernel
theorem d_NJ_nodeOn_11 : decode c_NJ_nodeOn 11 = .ok (.invokestatic 249, 3) := by decide +kernel
theorem d_NJ_nodeOn_14 : decode c_NJ_nodeOn 14 = .ok (.ireturn, 1) := by decide +kernel
theorem d_NJ_nodeOn_15 : decode c_NJ_nodeOn 15 = .ok (.iload_n 2, 1) := by decide +kernel
theorem d_NJ_nodeOn_16 : decode c_NJ_nodeOn 16 = .ok (.bipush 60, 2) := by decide +kernel
theorem d_NJ_nodeOn_18 : decode c_NJ_nodeOn 18 = .ok (.isub, 1) := by decide +kernel
theorem d_NJ_nodeOn_19 : decode c_NJ_nodeOn 19 = .ok (.istore_n 3, 1) := by decide +kernel
theorem d_NJ_nodeOn_20 : decode c_NJ_nodeOn 20 = .ok (.iload_n 3, 1) := by decide +kernel
theorem d_NJ_nodeOn_21 : decode c_NJ_nodeOn 21 = .ok (.aload_n 0, 1) := by decide +kernel
theorem d_NJ_nodeOn_22 : decode c_NJ_nodeOn 22 = .ok (.getfield 22, 3) := by decide +kernel
theorem d_NJ_nodeOn_25 : decode c_NJ_nodeOn 25 = .ok (.invokevirtual 76, 3) := by decide +kernel
theorem d_NJ_nodeOn_28 : decode c_NJ_nodeOn 28 = .ok (.if_icmp .ge 27, 3) := by decide +kernel
theorem d_NJ_nodeOn_31 : decode c_NJ_nodeOn 31 = .ok (.aload_n 1, 1) := by decide +kernel
theorem d_NJ_nodeOn_32 : decode c_NJ_nodeOn 32 = .ok (.getfield 368, 3) := by decide +kernel
theorem d_NJ_nodeOn_35 : decode c_NJ_nodeOn 35 = .ok (.aload_n 0, 1) := by decide +kernel
theorem d_NJ_nodeOn_36 : decode c_NJ_nodeOn 36 = .ok (.getfield 22, 3) := by decide +kernel
theorem d_NJ_nodeOn_39 : decode c_NJ_nodeOn 39 = .ok (.iload_n 3, 1) := by decide +kernel
theorem d_NJ_nodeOn_40 : decode c_NJ_nodeOn 40 = .ok (.invokevirtual 172, 3) := by decide +kernel
theorem d_NJ_nodeOn_43 : decode c_NJ_nodeOn 43 = .ok (.checkcast 140, 3) := by decide +kernel
theorem d_NJ_nodeOn_46 : decode c_NJ_nodeOn 46 = .ok (.getfield 176, 3) := by decide +kernel
theorem d_NJ_nodeOn_49 : decode c_NJ_nodeOn 49 = .ok (.invokestatic 180, 3) := by decide +kernel
theorem d_NJ_nodeOn_52 : decode c_NJ_nodeOn 52 = .ok (.goto 4, 3) := by decide +kernel
theorem d_NJ_nodeOn_55 : decode c_NJ_nodeOn 55 = .ok (.iconst (-1), 1) := by decide +kernel
theorem d_NJ_nodeOn_56 : decode c_NJ_nodeOn 56 = .ok (.ireturn, 1) := by decide +kernel
abbrev c_NJ_spreadSpots : ByteArray := prog_1_method_44_code
def y_NJ_spreadSpots : MethodName := ⟨"NetJoins", "spreadSpots", "(LNetJoins$Sheet;Ljava/util/ArrayList;)V"⟩
theorem ok_NJ_spreadSpots : vOK y_NJ_spreadSpots c_NJ_spreadSpots 5 none 2 := ⟨kw_355, kw_354, ks_19, kw_1, by decide +kernel⟩
theorem d_NJ_spreadSpots_0 : decode c_NJ_spreadSpots 0 = .ok (.iconst 0, 1) := by decide +kernel
theorem d_NJ_spreadSpots_1 : decode c_NJ_spreadSpots 1 = .ok (.istore_n 3, 1) := by decide +kernel
theorem d_NJ_spreadSpots_2 : decode c_NJ_spreadSpots 2 = .ok (.iload_n 3, 1) := by decide +kernel
theorem d_NJ_spreadSpots_3 : decode c_NJ_spreadSpots 3 = .ok (.aload_n 2, 1) := by decide +kernel
theorem d_NJ_spreadSpots_4 : decode c_NJ_spreadSpots 4 = .ok (.invokevirtual 76, 3) := by decide +kernel
theorem d_NJ_spreadSpots_7 : decode c_NJ_spreadSpots 7 = .ok (.if_icmp .ge 65, 3) := by decide +kernel
theorem d_NJ_spreadSpots_10 : decode c_NJ_spreadSpots 10 = .ok (.aload_n 2, 1) := by decide +kernel
theorem d_NJ_spreadSpots_11 : decode c_NJ_spreadSpots 11 = .ok (.iload_n 3, 1) := by decide +kernel
theorem d_NJ_spreadSpots_12 : decode c_NJ_spreadSpots 12 = .ok (.invokevirtual 172, 3) := by decide +kernel
theorem d_NJ_spreadSpots_15 : decode c_NJ_spreadSpots 15 = .ok (.checkcast 140, 3) := by decide +kernel
theorem d_NJ_spreadSpots_18 : decode c_NJ_spreadSpots 18 = .ok (.astore 4, 2) := by decide +kernel
theorem d_NJ_spreadSpots_20 : decode c_NJ_spreadSpots 20 = .ok (.aload 4, 2) := by decide +kernel
theorem d_NJ_spreadSpots_22 : decode c_NJ_spreadSpots 22 = .ok (.getfield 237, 3) := by decide +kernel
theorem d_NJ_spreadSpots_25 : decode c_NJ_spreadSpots 25 = .ok (.aload_n 1, 1) := by decide +kernel
theorem d_NJ_spreadSpots_26 : decode c_NJ_spreadSpots 26 = .ok (.getfield 202, 3) := by decide +kernel
theorem d_NJ_spreadSpots_29 : decode c_NJ_spreadSpots 29 = .ok (.if_icmp .ne 37, 3) := by decide +kernel
theorem d_NJ_spreadSpots_32 : decode c_NJ_spreadSpots 32 = .ok (.aload_n 0, 1) := by decide +kernel
theorem d_NJ_spreadSpots_33 : decode c_NJ_spreadSpots 33 = .ok (.getfield 50, 3) := by decide +kernel
theorem d_NJ_spreadSpots_36 : decode c_NJ_spreadSpots 36 = .ok (.aload_n 0, 1) := by decide +kernel
theorem d_NJ_spreadSpots_37 : decode c_NJ_spreadSpots 37 = .ok (.aload_n 1, 1) := by decide +kernel
theorem d_NJ_spreadSpots_38 : decode c_NJ_spreadSpots 38 = .ok (.aload 4, 2) := by decide +kernel
theorem d_NJ_spreadSpots_40 : decode c_NJ_spreadSpots 40 = .ok (.getfield 345, 3) := by decide +kernel
theorem d_NJ_spreadSpots_43 : decode c_NJ_spreadSpots 43 = .ok (.invokevirtual 373, 3) := by decide +kernel
theorem d_NJ_spreadSpots_46 : decode c_NJ_spreadSpots 46 = .ok (.aload_n 0, 1) := by decide +kernel
theorem d_NJ_spreadSpots_47 : decode c_NJ_spreadSpots 47 = .ok (.aload_n 1, 1) := by decide +kernel
theorem d_NJ_spreadSpots_48 : decode c_NJ_spreadSpots 48 = .ok (.aload_n 0, 1) := by decide +kernel
theorem d_NJ_spreadSpots_49 : decode c_NJ_spreadSpots 49 = .ok (.getfield 46, 3) := by decide +kernel
theorem d_NJ_spreadSpots_52 : decode c_NJ_spreadSpots 52 = .ok (.aload 4, 2) := by decide +kernel
theorem d_NJ_spreadSpots_54 : decode c_NJ_spreadSpots 54 = .ok (.getfield 345, 3) := by decide +kernel
theorem d_NJ_spreadSpots_57 : decode c_NJ_spreadSpots 57 = .ok (.invokevirtual 377, 3) := by decide +kernel
theorem d_NJ_spreadSpots_60 : decode c_NJ_spreadSpots 60 = .ok (.invokevirtual 373, 3) := by decide +kernel
theorem d_NJ_spreadSpots_63 : decode c_NJ_spreadSpots 63 = .ok (.invokevirtual 192, 3) := by decide +kernel
theorem d_NJ_spreadSpots_66 : decode c_NJ_spreadSpots 66 = .ok (.iinc 3 1, 3) := by decide +kernel
theorem d_NJ_spreadSpots_69 : decode c_NJ_spreadSpots 69 = .ok (.goto (-67), 3) := by decide +kernel
theorem d_NJ_spreadSpots_72 : decode c_NJ_spreadSpots 72 = .ok (.return_, 1) := by decide +kernel
abbrev c_NJ_spreadOn : ByteArray := prog_1_method_43_code
def y_NJ_spreadOn : MethodName := ⟨"NetJoins", "spreadOn", "(LNetJoins$Sheet;)V"⟩
theorem ok_NJ_spreadOn : vOK y_NJ_spreadOn c_NJ_spreadOn 2 none 1 := ⟨kw_351, kw_350, ks_18, kw_1, by decide +kernel⟩
theorem d_NJ_spreadOn_0 : decode c_NJ_spreadOn 0 = .ok (.aload_n 0, 1) := by decide +kernel
theorem d_NJ_spreadOn_1 : decode c_NJ_spreadOn 1 = .ok (.aload_n 1, 1) := by decide +kernel
theorem d_NJ_spreadOn_2 : decode c_NJ_spreadOn 2 = .ok (.aload_n 0, 1) := by decide +kernel
theorem d_NJ_spreadOn_3 : decode c_NJ_spreadOn 3 = .ok (.getfield 28, 3) := by decide +kernel
theorem d_NJ_spreadOn_6 : decode c_NJ_spreadOn 6 = .ok (.invokevirtual 369, 3) := by decide +kernel
theorem d_NJ_spreadOn_9 : decode c_NJ_spreadOn 9 = .ok (.aload_n 0, 1) := by decide +kernel
theorem d_NJ_spreadOn_10 : decode c_NJ_spreadOn 10 = .ok (.aload_n 1, 1) := by decide +kernel
theorem d_NJ_spreadOn_11 : decode c_NJ_spreadOn 11 = .ok (.aload_n 0, 1) := by decide +kernel
theorem d_NJ_spreadOn_12 : decode c_NJ_spreadOn 12 = .ok (.getfield 22, 3) := by decide +kernel
theorem d_NJ_spreadOn_15 : decode c_NJ_spreadOn 15 = .ok (.invokevirtual 369, 3) := by decide +kernel
theorem d_NJ_spreadOn_18 : decode c_NJ_spreadOn 18 = .ok (.return_, 1) := by decide +kernel
abbrev c_NJ_joinMembers : ByteArray := prog_1_method_48_code
def y_NJ_joinMembers : MethodName := ⟨"NetJoins", "joinMembers", "(LNetJoins$Bus;ILNetJoins$Bus;I)V"⟩
theorem ok_NJ_joinMembers : vOK y_NJ_joinMembers c_NJ_joinMembers 7 none 4 := ⟨kw_372, kw_371, ks_23, kw_1, by decide +kernel⟩
theorem d_NJ_joinMembers_0 : decode c_NJ_joinMembers 0 = .ok (.aload_n 1, 1) := by decide +kernel
theorem d_NJ_joinMembers_1 : decode c_NJ_joinMembers 1 = .ok (.invokevirtual 388, 3) := by decide +kernel
theorem d_NJ_joinMembers_4 : decode c_NJ_joinMembers 4 = .ok (.aload_n 3, 1) := by decide +kernel
theorem d_NJ_joinMembers_5 : decode c_NJ_joinMembers 5 = .ok (.invokevirtual 388, 3) := by decide +kernel
theorem d_NJ_joinMembers_8 : decode c_NJ_joinMembers 8 = .ok (.invokestatic 391, 3) := by decide +kernel
theorem d_NJ_joinMembers_11 : decode c_NJ_joinMembers 11 = .ok (.istore 5, 2) := by decide +kernel
theorem d_NJ_joinMembers_13 : decode c_NJ_joinMembers 13 = .ok (.iconst 0, 1) := by decide +kernel
theorem d_NJ_joinMembers_14 : decode c_NJ_joinMembers 14 = .ok (.istore 6, 2) := by decide +kernel
theorem d_NJ_joinMembers_16 : decode c_NJ_joinMembers 16 = .ok (.iload 6, 2) := by decide +kernel
theorem d_NJ_joinMembers_18 : decode c_NJ_joinMembers 18 = .ok (.iload 5, 2) := by decide +kernel
theorem d_NJ_joinMembers_20 : decode c_NJ_joinMembers 20 = .ok (.if_icmp .ge 37, 3) := by decide +kernel
theorem d_NJ_joinMembers_23 : decode c_NJ_joinMembers 23 = .ok (.aload_n 0, 1) := by decide +kernel
theorem d_NJ_joinMembers_24 : decode c_NJ_joinMembers 24 = .ok (.getfield 50, 3) := by decide +kernel
theorem d_NJ_joinMembers_27 : decode c_NJ_joinMembers 27 = .ok (.iload_n 2, 1) := by decide +kernel
theorem d_NJ_joinMembers_28 : decode c_NJ_joinMembers 28 = .ok (.aload_n 1, 1) := by decide +kernel
theorem d_NJ_joinMembers_29 : decode c_NJ_joinMembers 29 = .ok (.iload 6, 2) := by decide +kernel
theorem d_NJ_joinMembers_31 : decode c_NJ_joinMembers 31 = .ok (.invokevirtual 396, 3) := by decide +kernel
theorem d_NJ_joinMembers_34 : decode c_NJ_joinMembers 34 = .ok (.invokestatic 180, 3) := by decide +kernel
theorem d_NJ_joinMembers_37 : decode c_NJ_joinMembers 37 = .ok (.iload 4, 2) := by decide +kernel
theorem d_NJ_joinMembers_39 : decode c_NJ_joinMembers 39 = .ok (.aload_n 3, 1) := by decide +kernel
theorem d_NJ_joinMembers_40 : decode c_NJ_joinMembers 40 = .ok (.iload 6, 2) := by decide +kernel
theorem d_NJ_joinMembers_42 : decode c_NJ_joinMembers 42 = .ok (.invokevirtual 396, 3) := by decide +kernel
theorem d_NJ_joinMembers_45 : decode c_NJ_joinMembers 45 = .ok (.invokestatic 180, 3) := by decide +kernel
theorem d_NJ_joinMembers_48 : decode c_NJ_joinMembers 48 = .ok (.invokevirtual 192, 3) := by decide +kernel
theorem d_NJ_joinMembers_51 : decode c_NJ_joinMembers 51 = .ok (.iinc 6 1, 3) := by decide +kernel
theorem d_NJ_joinMembers_54 : decode c_NJ_joinMembers 54 = .ok (.goto (-38), 3) := by decide +kernel
theorem d_NJ_joinMembers_57 : decode c_NJ_joinMembers 57 = .ok (.return_, 1) := by decide +kernel
abbrev c_NJ_longestBefore : ByteArray := prog_1_method_47_code
def y_NJ_longestBefore : MethodName := ⟨"NetJoins", "longestBefore", "(I)LNetJoins$Bus;"⟩
theorem ok_NJ_longestBefore : vOK y_NJ_longestBefore c_NJ_longestBefore 7 (some (.object "NetJoins$Bus")) 1 := ⟨kw_388, kw_387, ks_24, kw_1, by decide +kernel⟩
theorem d_NJ_longestBefore_0 : decode c_NJ_longestBefore 0 = .ok (.aload_n 0, 1) := by decide +kernel
theorem d_NJ_longestBefore_1 : decode c_NJ_longestBefore 1 = .ok (.getfield 34, 3) := by decide +kernel
theorem d_NJ_longestBefore_4 : decode c_NJ_longestBefore 4 = .ok (.iload_n 1, 1) := by decide +kernel
theorem d_NJ_longestBefore_5 : decode c_NJ_longestBefore 5 = .ok (.invokevirtual 172, 3) := by decide +kernel
theorem d_NJ_longestBefore_8 : decode c_NJ_longestBefore 8 = .ok (.checkcast 199, 3) := by decide +kernel
theorem d_NJ_longestBefore_11 : decode c_NJ_longestBefore 11 = .ok (.astore_n 2, 1) := by decide +kernel
theorem d_NJ_longestBefore_12 : decode c_NJ_longestBefore 12 = .ok (.aconst_null, 1) := by decide +kernel
theorem d_NJ_longestBefore_13 : decode c_NJ_longestBefore 13 = .ok (.astore_n 3, 1) := by decide +kernel
theorem d_NJ_longestBefore_14 : decode c_NJ_longestBefore 14 = .ok (.iconst 0, 1) := by decide +kernel
theorem d_NJ_longestBefore_15 : decode c_NJ_longestBefore 15 = .ok (.istore 4, 2) := by decide +kernel
theorem d_NJ_longestBefore_17 : decode c_NJ_longestBefore 17 = .ok (.iload 4, 2) := by decide +kernel
theorem d_NJ_longestBefore_19 : decode c_NJ_longestBefore 19 = .ok (.iload_n 1, 1) := by decide +kernel
theorem d_NJ_longestBefore_20 : decode c_NJ_longestBefore 20 = .ok (.if_icmp .ge 88, 3) := by decide +kernel
theorem d_NJ_longestBefore_23 : decode c_NJ_longestBefore 23 = .ok (.aload_n 0, 1) := by decide +kernel
theorem d_NJ_longestBefore_24 : decode c_NJ_longestBefore 24 = .ok (.getfield 34, 3) := by decide +kernel
theorem d_NJ_longestBefore_27 : decode c_NJ_longestBefore 27 = .ok (.iload 4, 2) := by decide +kernel
theorem d_NJ_longestBefore_29 : decode c_NJ_longestBefore 29 = .ok (.invokevirtual 172, 3) := by decide +kernel
theorem d_NJ_longestBefore_32 : decode c_NJ_longestBefore 32 = .ok (.checkcast 199, 3) := by decide +kernel
theorem d_NJ_longestBefore_35 : decode c_NJ_longestBefore 35 = .ok (.astore 5, 2) := by decide +kernel
theorem d_NJ_longestBefore_37 : decode c_NJ_longestBefore 37 = .ok (.aload 5, 2) := by decide +kernel
theorem d_NJ_longestBefore_39 : decode c_NJ_longestBefore 39 = .ok (.getfield 315, 3) := by decide +kernel
theorem d_NJ_longestBefore_42 : decode c_NJ_longestBefore 42 = .ok (.aload_n 2, 1) := by decide +kernel
theorem d_NJ_longestBefore_43 : decode c_NJ_longestBefore 43 = .ok (.getfield 315, 3) := by decide +kernel
theorem d_NJ_longestBefore_46 : decode c_NJ_longestBefore 46 = .ok (.if_icmp .ne 29, 3) := by decide +kernel
theorem d_NJ_longestBefore_49 : decode c_NJ_longestBefore 49 = .ok (.aload_n 2, 1) := by decide +kernel
theorem d_NJ_longestBefore_50 : decode c_NJ_longestBefore 50 = .ok (.getfield 315, 3) := by decide +kernel
theorem d_NJ_longestBefore_53 : decode c_NJ_longestBefore 53 = .ok (.invokestatic 359, 3) := by decide +kernel
theorem d_NJ_longestBefore_56 : decode c_NJ_longestBefore 56 = .ok (.ifCond .ne 15, 3) := by decide +kernel
theorem d_NJ_longestBefore_59 : decode c_NJ_longestBefore 59 = .ok (.aload 5, 2) := by decide +kernel
theorem d_NJ_longestBefore_61 : decode c_NJ_longestBefore 61 = .ok (.getfield 314, 3) := by decide +kernel
theorem d_NJ_longestBefore_64 : decode c_NJ_longestBefore 64 = .ok (.aload_n 2, 1) := by decide +kernel
theorem d_NJ_longestBefore_65 : decode c_NJ_longestBefore 65 = .ok (.getfield 314, 3) := by decide +kernel
theorem d_NJ_longestBefore_68 : decode c_NJ_longestBefore 68 = .ok (.if_icmp .ne 7, 3) := by decide +kernel
theorem d_NJ_longestBefore_71 : decode c_NJ_longestBefore 71 = .ok (.iconst 1, 1) := by decide +kernel
theorem d_NJ_longestBefore_72 : decode c_NJ_longestBefore 72 = .ok (.goto 4, 3) := by decide +kernel
theorem d_NJ_longestBefore_75 : decode c_NJ_longestBefore 75 = .ok (.iconst 0, 1) := by decide +kernel
theorem d_NJ_longestBefore_76 : decode c_NJ_longestBefore 76 = .ok (.istore 6, 2) := by decide +kernel
theorem d_NJ_longestBefore_78 : decode c_NJ_longestBefore 78 = .ok (.iload 6, 2) := by decide +kernel
theorem d_NJ_longestBefore_80 : decode c_NJ_longestBefore 80 = .ok (.ifCond .eq 22, 3) := by decide +kernel
theorem d_NJ_longestBefore_83 : decode c_NJ_longestBefore 83 = .ok (.aload_n 3, 1) := by decide +kernel
theorem d_NJ_longestBefore_84 : decode c_NJ_longestBefore 84 = .ok (.ifnull 15, 3) := by decide +kernel
theorem d_NJ_longestBefore_87 : decode c_NJ_longestBefore 87 = .ok (.aload 5, 2) := by decide +kernel
theorem d_NJ_longestBefore_89 : decode c_NJ_longestBefore 89 = .ok (.invokevirtual 388, 3) := by decide +kernel
theorem d_NJ_longestBefore_92 : decode c_NJ_longestBefore 92 = .ok (.aload_n 3, 1) := by decide +kernel
theorem d_NJ_longestBefore_93 : decode c_NJ_longestBefore 93 = .ok (.invokevirtual 388, 3) := by decide +kernel
theorem d_NJ_longestBefore_96 : decode c_NJ_longestBefore 96 = .ok (.if_icmp .le 6, 3) := by decide +kernel
theorem d_NJ_longestBefore_99 : decode c_NJ_longestBefore 99 = .ok (.aload 5, 2) := by decide +kernel
theorem d_NJ_longestBefore_101 : decode c_NJ_longestBefore 101 = .ok (.astore_n 3, 1) := by decide +kernel
theorem d_NJ_longestBefore_102 : decode c_NJ_longestBefore 102 = .ok (.iinc 4 1, 3) := by decide +kernel
theorem d_NJ_longestBefore_105 : decode c_NJ_longestBefore 105 = .ok (.goto (-88), 3) := by decide +kernel
theorem d_NJ_longestBefore_108 : decode c_NJ_longestBefore 108 = .ok (.aload_n 3, 1) := by decide +kernel
theorem d_NJ_longestBefore_109 : decode c_NJ_longestBefore 109 = .ok (.areturn, 1) := by decide +kernel
abbrev c_NJ_joinBus : ByteArray := prog_1_method_46_code
def y_NJ_joinBus : MethodName := ⟨"NetJoins", "joinBus", "(II)V"⟩
theorem ok_NJ_joinBus : vOK y_NJ_joinBus c_NJ_joinBus 6 none 2 := ⟨kw_368, kw_367, ks_22, kw_1, by decide +kernel⟩
theorem d_NJ_joinBus_0 : decode c_NJ_joinBus 0 = .ok (.aload_n 0, 1) := by decide +kernel
theorem d_NJ_joinBus_1 : decode c_NJ_joinBus 1 = .ok (.getfield 34, 3) := by decide +kernel
theorem d_NJ_joinBus_4 : decode c_NJ_joinBus 4 = .ok (.iload_n 1, 1) := by decide +kernel
theorem d_NJ_joinBus_5 : decode c_NJ_joinBus 5 = .ok (.invokevirtual 172, 3) := by decide +kernel
theorem d_NJ_joinBus_8 : decode c_NJ_joinBus 8 = .ok (.checkcast 199, 3) := by decide +kernel
theorem d_NJ_joinBus_11 : decode c_NJ_joinBus 11 = .ok (.astore_n 3, 1) := by decide +kernel
theorem d_NJ_joinBus_12 : decode c_NJ_joinBus 12 = .ok (.aload_n 3, 1) := by decide +kernel
theorem d_NJ_joinBus_13 : decode c_NJ_joinBus 13 = .ok (.getfield 315, 3) := by decide +kernel
theorem d_NJ_joinBus_16 : decode c_NJ_joinBus 16 = .ok (.invokestatic 359, 3) := by decide +kernel
theorem d_NJ_joinBus_19 : decode c_NJ_joinBus 19 = .ok (.istore 4, 2) := by decide +kernel
theorem d_NJ_joinBus_21 : decode c_NJ_joinBus 21 = .ok (.iload 4, 2) := by decide +kernel
theorem d_NJ_joinBus_23 : decode c_NJ_joinBus 23 = .ok (.ifCond .eq 23, 3) := by decide +kernel
theorem d_NJ_joinBus_26 : decode c_NJ_joinBus 26 = .ok (.iload_n 2, 1) := by decide +kernel
theorem d_NJ_joinBus_27 : decode c_NJ_joinBus 27 = .ok (.aload_n 3, 1) := by decide +kernel
theorem d_NJ_joinBus_28 : decode c_NJ_joinBus 28 = .ok (.getfield 314, 3) := by decide +kernel
theorem d_NJ_joinBus_31 : decode c_NJ_joinBus 31 = .ok (.if_icmp .eq 15, 3) := by decide +kernel
theorem d_NJ_joinBus_34 : decode c_NJ_joinBus 34 = .ok (.aload_n 0, 1) := by decide +kernel
theorem d_NJ_joinBus_35 : decode c_NJ_joinBus 35 = .ok (.aload_n 3, 1) := by decide +kernel
theorem d_NJ_joinBus_36 : decode c_NJ_joinBus 36 = .ok (.iload_n 2, 1) := by decide +kernel
theorem d_NJ_joinBus_37 : decode c_NJ_joinBus 37 = .ok (.aload_n 3, 1) := by decide +kernel
theorem d_NJ_joinBus_38 : decode c_NJ_joinBus 38 = .ok (.aload_n 3, 1) := by decide +kernel
theorem d_NJ_joinBus_39 : decode c_NJ_joinBus 39 = .ok (.getfield 314, 3) := by decide +kernel
theorem d_NJ_joinBus_42 : decode c_NJ_joinBus 42 = .ok (.invokevirtual 380, 3) := by decide +kernel
theorem d_NJ_joinBus_45 : decode c_NJ_joinBus 45 = .ok (.return_, 1) := by decide +kernel
theorem d_NJ_joinBus_46 : decode c_NJ_joinBus 46 = .ok (.aload_n 0, 1) := by decide +kernel
theorem d_NJ_joinBus_47 : decode c_NJ_joinBus 47 = .ok (.iload_n 1, 1) := by decide +kernel
theorem d_NJ_joinBus_48 : decode c_NJ_joinBus 48 = .ok (.invokevirtual 384, 3) := by decide +kernel
theorem d_NJ_joinBus_51 : decode c_NJ_joinBus 51 = .ok (.astore 5, 2) := by decide +kernel
theorem d_NJ_joinBus_53 : decode c_NJ_joinBus 53 = .ok (.aload 5, 2) := by decide +kernel
theorem d_NJ_joinBus_55 : decode c_NJ_joinBus 55 = .ok (.ifnull 25, 3) := by decide +kernel
theorem d_NJ_joinBus_58 : decode c_NJ_joinBus 58 = .ok (.aload_n 0, 1) := by decide +kernel
theorem d_NJ_joinBus_59 : decode c_NJ_joinBus 59 = .ok (.aload_n 3, 1) := by decide +kernel
theorem d_NJ_joinBus_60 : decode c_NJ_joinBus 60 = .ok (.iload_n 2, 1) := by decide +kernel
theorem d_NJ_joinBus_61 : decode c_NJ_joinBus 61 = .ok (.aload 5, 2) := by decide +kernel
theorem d_NJ_joinBus_63 : decode c_NJ_joinBus 63 = .ok (.iload 4, 2) := by decide +kernel
theorem d_NJ_joinBus_65 : decode c_NJ_joinBus 65 = .ok (.ifCond .eq 11, 3) := by decide +kernel
theorem d_NJ_joinBus_68 : decode c_NJ_joinBus 68 = .ok (.aload 5, 2) := by decide +kernel
theorem d_NJ_joinBus_70 : decode c_NJ_joinBus 70 = .ok (.getfield 314, 3) := by decide +kernel
theorem d_NJ_joinBus_73 : decode c_NJ_joinBus 73 = .ok (.goto 4, 3) := by decide +kernel
theorem d_NJ_joinBus_76 : decode c_NJ_joinBus 76 = .ok (.iload_n 2, 1) := by decide +kernel
theorem d_NJ_joinBus_77 : decode c_NJ_joinBus 77 = .ok (.invokevirtual 380, 3) := by decide +kernel
theorem d_NJ_joinBus_80 : decode c_NJ_joinBus 80 = .ok (.return_, 1) := by decide +kernel
abbrev c_NJ_joinBusesOn : ByteArray := prog_1_method_45_code
def y_NJ_joinBusesOn : MethodName := ⟨"NetJoins", "joinBusesOn", "(LNetJoins$Sheet;)V"⟩
theorem ok_NJ_joinBusesOn : vOK y_NJ_joinBusesOn c_NJ_joinBusesOn 3 none 1 := ⟨kw_363, kw_362, ks_21, kw_1, by decide +kernel⟩
theorem d_NJ_joinBusesOn_0 : decode c_NJ_joinBusesOn 0 = .ok (.iconst 0, 1) := by decide +kernel
theorem d_NJ_joinBusesOn_1 : decode c_NJ_joinBusesOn 1 = .ok (.istore_n 2, 1) := by decide +kernel
theorem d_NJ_joinBusesOn_2 : decode c_NJ_joinBusesOn 2 = .ok (.iload_n 2, 1) := by decide +kernel
theorem d_NJ_joinBusesOn_3 : decode c_NJ_joinBusesOn 3 = .ok (.aload_n 0, 1) := by decide +kernel
theorem d_NJ_joinBusesOn_4 : decode c_NJ_joinBusesOn 4 = .ok (.getfield 34, 3) := by decide +kernel
theorem d_NJ_joinBusesOn_7 : decode c_NJ_joinBusesOn 7 = .ok (.invokevirtual 76, 3) := by decide +kernel
theorem d_NJ_joinBusesOn_10 : decode c_NJ_joinBusesOn 10 = .ok (.if_icmp .ge 39, 3) := by decide +kernel
theorem d_NJ_joinBusesOn_13 : decode c_NJ_joinBusesOn 13 = .ok (.aload_n 0, 1) := by decide +kernel
theorem d_NJ_joinBusesOn_14 : decode c_NJ_joinBusesOn 14 = .ok (.getfield 34, 3) := by decide +kernel
theorem d_NJ_joinBusesOn_17 : decode c_NJ_joinBusesOn 17 = .ok (.iload_n 2, 1) := by decide +kernel
theorem d_NJ_joinBusesOn_18 : decode c_NJ_joinBusesOn 18 = .ok (.invokevirtual 172, 3) := by decide +kernel
theorem d_NJ_joinBusesOn_21 : decode c_NJ_joinBusesOn 21 = .ok (.checkcast 199, 3) := by decide +kernel
theorem d_NJ_joinBusesOn_24 : decode c_NJ_joinBusesOn 24 = .ok (.getfield 314, 3) := by decide +kernel
theorem d_NJ_joinBusesOn_27 : decode c_NJ_joinBusesOn 27 = .ok (.aload_n 1, 1) := by decide +kernel
theorem d_NJ_joinBusesOn_28 : decode c_NJ_joinBusesOn 28 = .ok (.getfield 202, 3) := by decide +kernel
theorem d_NJ_joinBusesOn_31 : decode c_NJ_joinBusesOn 31 = .ok (.if_icmp .ne 12, 3) := by decide +kernel
theorem d_NJ_joinBusesOn_34 : decode c_NJ_joinBusesOn 34 = .ok (.aload_n 0, 1) := by decide +kernel
theorem d_NJ_joinBusesOn_35 : decode c_NJ_joinBusesOn 35 = .ok (.iload_n 2, 1) := by decide +kernel
theorem d_NJ_joinBusesOn_36 : decode c_NJ_joinBusesOn 36 = .ok (.aload_n 1, 1) := by decide +kernel
theorem d_NJ_joinBusesOn_37 : decode c_NJ_joinBusesOn 37 = .ok (.getfield 368, 3) := by decide +kernel
theorem d_NJ_joinBusesOn_40 : decode c_NJ_joinBusesOn 40 = .ok (.invokevirtual 205, 3) := by decide +kernel
theorem d_NJ_joinBusesOn_43 : decode c_NJ_joinBusesOn 43 = .ok (.iinc 2 1, 3) := by decide +kernel
theorem d_NJ_joinBusesOn_46 : decode c_NJ_joinBusesOn 46 = .ok (.goto (-44), 3) := by decide +kernel
theorem d_NJ_joinBusesOn_49 : decode c_NJ_joinBusesOn 49 = .ok (.return_, 1) := by decide +kernel
abbrev c_NJ_joinAnew : ByteArray := prog_1_method_49_code
def y_NJ_joinAnew : MethodName := ⟨"NetJoins", "joinAnew", "()V"⟩
theorem ok_NJ_joinAnew : vOK y_NJ_joinAnew c_NJ_joinAnew 2 none 0 := ⟨kw_301, kw_300, ks_12, kw_1, by decide +kernel⟩
theorem d_NJ_joinAnew_0 : decode c_NJ_joinAnew 0 = .ok (.aload_n 0, 1) := by decide +kernel
theorem d_NJ_joinAnew_1 : decode c_NJ_joinAnew 1 = .ok (.invokevirtual 399, 3) := by decide +kernel
theorem d_NJ_joinAnew_4 : decode c_NJ_joinAnew 4 = .ok (.aload_n 0, 1) := by decide +kernel
theorem d_NJ_joinAnew_5 : decode c_NJ_joinAnew 5 = .ok (.getfield 50, 3) := by decide +kernel
theorem d_NJ_joinAnew_8 : decode c_NJ_joinAnew 8 = .ok (.invokevirtual 402, 3) := by decide +kernel
theorem d_NJ_joinAnew_11 : decode c_NJ_joinAnew 11 = .ok (.iconst 0, 1) := by decide +kernel
theorem d_NJ_joinAnew_12 : decode c_NJ_joinAnew 12 = .ok (.istore_n 1, 1) := by decide +kernel
theorem d_NJ_joinAnew_13 : decode c_NJ_joinAnew 13 = .ok (.iload_n 1, 1) := by decide +kernel
theorem d_NJ_joinAnew_14 : decode c_NJ_joinAnew 14 = .ok (.aload_n 0, 1) := by decide +kernel
theorem d_NJ_joinAnew_15 : decode c_NJ_joinAnew 15 = .ok (.getfield 12, 3) := by decide +kernel
theorem d_NJ_joinAnew_18 : decode c_NJ_joinAnew 18 = .ok (.invokevirtual 76, 3) := by decide +kernel
theorem d_NJ_joinAnew_21 : decode c_NJ_joinAnew 21 = .ok (.if_icmp .ge 39, 3) := by decide +kernel
theorem d_NJ_joinAnew_24 : decode c_NJ_joinAnew 24 = .ok (.aload_n 0, 1) := by decide +kernel
theorem d_NJ_joinAnew_25 : decode c_NJ_joinAnew 25 = .ok (.aload_n 0, 1) := by decide +kernel
theorem d_NJ_joinAnew_26 : decode c_NJ_joinAnew 26 = .ok (.getfield 12, 3) := by decide +kernel
theorem d_NJ_joinAnew_29 : decode c_NJ_joinAnew 29 = .ok (.iload_n 1, 1) := by decide +kernel
theorem d_NJ_joinAnew_30 : decode c_NJ_joinAnew 30 = .ok (.invokevirtual 172, 3) := by decide +kernel
theorem d_NJ_joinAnew_33 : decode c_NJ_joinAnew 33 = .ok (.checkcast 80, 3) := by decide +kernel
theorem d_NJ_joinAnew_36 : decode c_NJ_joinAnew 36 = .ok (.invokevirtual 96, 3) := by decide +kernel
theorem d_NJ_joinAnew_39 : decode c_NJ_joinAnew 39 = .ok (.aload_n 0, 1) := by decide +kernel
theorem d_NJ_joinAnew_40 : decode c_NJ_joinAnew 40 = .ok (.aload_n 0, 1) := by decide +kernel
theorem d_NJ_joinAnew_41 : decode c_NJ_joinAnew 41 = .ok (.getfield 12, 3) := by decide +kernel
theorem d_NJ_joinAnew_44 : decode c_NJ_joinAnew 44 = .ok (.iload_n 1, 1) := by decide +kernel
theorem d_NJ_joinAnew_45 : decode c_NJ_joinAnew 45 = .ok (.invokevirtual 172, 3) := by decide +kernel
theorem d_NJ_joinAnew_48 : decode c_NJ_joinAnew 48 = .ok (.checkcast 80, 3) := by decide +kernel
theorem d_NJ_joinAnew_51 : decode c_NJ_joinAnew 51 = .ok (.invokevirtual 100, 3) := by decide +kernel
theorem d_NJ_joinAnew_54 : decode c_NJ_joinAnew 54 = .ok (.iinc 1 1, 3) := by decide +kernel
theorem d_NJ_joinAnew_57 : decode c_NJ_joinAnew 57 = .ok (.goto (-44), 3) := by decide +kernel
theorem d_NJ_joinAnew_60 : decode c_NJ_joinAnew 60 = .ok (.iconst 0, 1) := by decide +kernel
theorem d_NJ_joinAnew_61 : decode c_NJ_joinAnew 61 = .ok (.istore_n 1, 1) := by decide +kernel
theorem d_NJ_joinAnew_62 : decode c_NJ_joinAnew 62 = .ok (.iload_n 1, 1) := by decide +kernel
theorem d_NJ_joinAnew_63 : decode c_NJ_joinAnew 63 = .ok (.aload_n 0, 1) := by decide +kernel
theorem d_NJ_joinAnew_64 : decode c_NJ_joinAnew 64 = .ok (.getfield 31, 3) := by decide +kernel
theorem d_NJ_joinAnew_67 : decode c_NJ_joinAnew 67 = .ok (.invokevirtual 76, 3) := by decide +kernel
theorem d_NJ_joinAnew_70 : decode c_NJ_joinAnew 70 = .ok (.if_icmp .ge 44, 3) := by decide +kernel
theorem d_NJ_joinAnew_73 : decode c_NJ_joinAnew 73 = .ok (.aload_n 0, 1) := by decide +kernel
theorem d_NJ_joinAnew_74 : decode c_NJ_joinAnew 74 = .ok (.getfield 50, 3) := by decide +kernel
theorem d_NJ_joinAnew_77 : decode c_NJ_joinAnew 77 = .ok (.aload_n 0, 1) := by decide +kernel
theorem d_NJ_joinAnew_78 : decode c_NJ_joinAnew 78 = .ok (.getfield 31, 3) := by decide +kernel
theorem d_NJ_joinAnew_81 : decode c_NJ_joinAnew 81 = .ok (.iload_n 1, 1) := by decide +kernel
theorem d_NJ_joinAnew_82 : decode c_NJ_joinAnew 82 = .ok (.invokevirtual 172, 3) := by decide +kernel
theorem d_NJ_joinAnew_85 : decode c_NJ_joinAnew 85 = .ok (.checkcast 187, 3) := by decide +kernel
theorem d_NJ_joinAnew_88 : decode c_NJ_joinAnew 88 = .ok (.getfield 405, 3) := by decide +kernel
theorem d_NJ_joinAnew_91 : decode c_NJ_joinAnew 91 = .ok (.aload_n 0, 1) := by decide +kernel
theorem d_NJ_joinAnew_92 : decode c_NJ_joinAnew 92 = .ok (.getfield 31, 3) := by decide +kernel
theorem d_NJ_joinAnew_95 : decode c_NJ_joinAnew 95 = .ok (.iload_n 1, 1) := by decide +kernel
theorem d_NJ_joinAnew_96 : decode c_NJ_joinAnew 96 = .ok (.invokevirtual 172, 3) := by decide +kernel
theorem d_NJ_joinAnew_99 : decode c_NJ_joinAnew 99 = .ok (.checkcast 187, 3) := by decide +kernel
theorem d_NJ_joinAnew_102 : decode c_NJ_joinAnew 102 = .ok (.getfield 408, 3) := by decide +kernel
theorem d_NJ_joinAnew_105 : decode c_NJ_joinAnew 105 = .ok (.invokevirtual 192, 3) := by decide +kernel
theorem d_NJ_joinAnew_108 : decode c_NJ_joinAnew 108 = .ok (.iinc 1 1, 3) := by decide +kernel
theorem d_NJ_joinAnew_111 : decode c_NJ_joinAnew 111 = .ok (.goto (-49), 3) := by decide +kernel
theorem d_NJ_joinAnew_114 : decode c_NJ_joinAnew 114 = .ok (.return_, 1) := by decide +kernel
abbrev c_NJ_countNets : ByteArray := prog_1_method_52_code
def y_NJ_countNets : MethodName := ⟨"NetJoins", "countNets", "()V"⟩
theorem ok_NJ_countNets : vOK y_NJ_countNets c_NJ_countNets 5 none 0 := ⟨kw_393, kw_392, ks_25, kw_1, by decide +kernel⟩
theorem d_NJ_countNets_0 : decode c_NJ_countNets 0 = .ok (.aload_n 0, 1) := by decide +kernel
theorem d_NJ_countNets_1 : decode c_NJ_countNets 1 = .ok (.getfield 56, 3) := by decide +kernel
theorem d_NJ_countNets_4 : decode c_NJ_countNets 4 = .ok (.invokevirtual 417, 3) := by decide +kernel
theorem d_NJ_countNets_7 : decode c_NJ_countNets 7 = .ok (.iconst 0, 1) := by decide +kernel
theorem d_NJ_countNets_8 : decode c_NJ_countNets 8 = .ok (.istore_n 1, 1) := by decide +kernel
theorem d_NJ_countNets_9 : decode c_NJ_countNets 9 = .ok (.iload_n 1, 1) := by decide +kernel
theorem d_NJ_countNets_10 : decode c_NJ_countNets 10 = .ok (.aload_n 0, 1) := by decide +kernel
theorem d_NJ_countNets_11 : decode c_NJ_countNets 11 = .ok (.getfield 28, 3) := by decide +kernel
theorem d_NJ_countNets_14 : decode c_NJ_countNets 14 = .ok (.invokevirtual 76, 3) := by decide +kernel
theorem d_NJ_countNets_17 : decode c_NJ_countNets 17 = .ok (.if_icmp .ge 66, 3) := by decide +kernel
theorem d_NJ_countNets_20 : decode c_NJ_countNets 20 = .ok (.aload_n 0, 1) := by decide +kernel
theorem d_NJ_countNets_21 : decode c_NJ_countNets 21 = .ok (.aload_n 0, 1) := by decide +kernel
theorem d_NJ_countNets_22 : decode c_NJ_countNets 22 = .ok (.getfield 28, 3) := by decide +kernel
theorem d_NJ_countNets_25 : decode c_NJ_countNets 25 = .ok (.iload_n 1, 1) := by decide +kernel
theorem d_NJ_countNets_26 : decode c_NJ_countNets 26 = .ok (.invokevirtual 172, 3) := by decide +kernel
theorem d_NJ_countNets_29 : decode c_NJ_countNets 29 = .ok (.checkcast 140, 3) := by decide +kernel
theorem d_NJ_countNets_32 : decode c_NJ_countNets 32 = .ok (.getfield 237, 3) := by decide +kernel
theorem d_NJ_countNets_35 : decode c_NJ_countNets 35 = .ok (.invokevirtual 240, 3) := by decide +kernel
theorem d_NJ_countNets_38 : decode c_NJ_countNets 38 = .ok (.istore_n 2, 1) := by decide +kernel
theorem d_NJ_countNets_39 : decode c_NJ_countNets 39 = .ok (.iconst 0, 1) := by decide +kernel
theorem d_NJ_countNets_40 : decode c_NJ_countNets 40 = .ok (.istore_n 3, 1) := by decide +kernel
theorem d_NJ_countNets_41 : decode c_NJ_countNets 41 = .ok (.iload_n 3, 1) := by decide +kernel
theorem d_NJ_countNets_42 : decode c_NJ_countNets 42 = .ok (.iload_n 2, 1) := by decide +kernel
theorem d_NJ_countNets_43 : decode c_NJ_countNets 43 = .ok (.if_icmp .ge 34, 3) := by decide +kernel
theorem d_NJ_countNets_46 : decode c_NJ_countNets 46 = .ok (.iload_n 1, 1) := by decide +kernel
theorem d_NJ_countNets_47 : decode c_NJ_countNets 47 = .ok (.iload_n 3, 1) := by decide +kernel
theorem d_NJ_countNets_48 : decode c_NJ_countNets 48 = .ok (.invokestatic 249, 3) := by decide +kernel
theorem d_NJ_countNets_51 : decode c_NJ_countNets 51 = .ok (.istore 4, 2) := by decide +kernel
theorem d_NJ_countNets_53 : decode c_NJ_countNets 53 = .ok (.aload_n 0, 1) := by decide +kernel
theorem d_NJ_countNets_54 : decode c_NJ_countNets 54 = .ok (.getfield 56, 3) := by decide +kernel
theorem d_NJ_countNets_57 : decode c_NJ_countNets 57 = .ok (.iload 4, 2) := by decide +kernel
theorem d_NJ_countNets_59 : decode c_NJ_countNets 59 = .ok (.aload_n 0, 1) := by decide +kernel
theorem d_NJ_countNets_60 : decode c_NJ_countNets 60 = .ok (.getfield 50, 3) := by decide +kernel
theorem d_NJ_countNets_63 : decode c_NJ_countNets 63 = .ok (.iload 4, 2) := by decide +kernel
theorem d_NJ_countNets_65 : decode c_NJ_countNets 65 = .ok (.invokevirtual 377, 3) := by decide +kernel
theorem d_NJ_countNets_68 : decode c_NJ_countNets 68 = .ok (.invokevirtual 420, 3) := by decide +kernel
theorem d_NJ_countNets_71 : decode c_NJ_countNets 71 = .ok (.iinc 3 1, 3) := by decide +kernel
theorem d_NJ_countNets_74 : decode c_NJ_countNets 74 = .ok (.goto (-33), 3) := by decide +kernel
theorem d_NJ_countNets_77 : decode c_NJ_countNets 77 = .ok (.iinc 1 1, 3) := by decide +kernel
theorem d_NJ_countNets_80 : decode c_NJ_countNets 80 = .ok (.goto (-71), 3) := by decide +kernel
theorem d_NJ_countNets_83 : decode c_NJ_countNets 83 = .ok (.return_, 1) := by decide +kernel
abbrev c_NJ_same : ByteArray := prog_1_method_16_code
def y_NJ_same : MethodName := ⟨"NetJoins", "same", "()Z"⟩
theorem ok_NJ_same : vOK y_NJ_same c_NJ_same 1 (some .boolean) 0 := ⟨kw_290, kw_288, kw_289, kw_1, by decide +kernel⟩
theorem d_NJ_same_0 : decode c_NJ_same 0 = .ok (.aload_n 0, 1) := by decide +kernel
theorem d_NJ_same_1 : decode c_NJ_same 1 = .ok (.getfield 56, 3) := by decide +kernel
theorem d_NJ_same_4 : decode c_NJ_same 4 = .ok (.invokevirtual 269, 3) := by decide +kernel
theorem d_NJ_same_7 : decode c_NJ_same 7 = .ok (.aload_n 0, 1) := by decide +kernel
theorem d_NJ_same_8 : decode c_NJ_same 8 = .ok (.invokevirtual 222, 3) := by decide +kernel
theorem d_NJ_same_11 : decode c_NJ_same 11 = .ok (.aload_n 0, 1) := by decide +kernel
theorem d_NJ_same_12 : decode c_NJ_same 12 = .ok (.invokevirtual 272, 3) := by decide +kernel
theorem d_NJ_same_15 : decode c_NJ_same 15 = .ok (.aload_n 0, 1) := by decide +kernel
theorem d_NJ_same_16 : decode c_NJ_same 16 = .ok (.getfield 56, 3) := by decide +kernel
theorem d_NJ_same_19 : decode c_NJ_same 19 = .ok (.invokevirtual 275, 3) := by decide +kernel
theorem d_NJ_same_22 : decode c_NJ_same 22 = .ok (.ireturn, 1) := by decide +kernel
abbrev c_NJ_changed : ByteArray := prog_1_method_17_code
def y_NJ_changed : MethodName := ⟨"NetJoins", "changed", "(I)I"⟩
theorem ok_NJ_changed : vOK y_NJ_changed c_NJ_changed 2 (some .int) 1 := ⟨kw_410, kw_408, kw_409, kw_1, by decide +kernel⟩
theorem d_NJ_changed_0 : decode c_NJ_changed 0 = .ok (.aload_n 0, 1) := by decide +kernel
theorem d_NJ_changed_1 : decode c_NJ_changed 1 = .ok (.getfield 56, 3) := by decide +kernel
theorem d_NJ_changed_4 : decode c_NJ_changed 4 = .ok (.iload_n 1, 1) := by decide +kernel
theorem d_NJ_changed_5 : decode c_NJ_changed 5 = .ok (.invokevirtual 279, 3) := by decide +kernel
theorem d_NJ_changed_8 : decode c_NJ_changed 8 = .ok (.ireturn, 1) := by decide +kernel
abbrev c_NJ_repeatOf : ByteArray := prog_1_method_29_code
def y_NJ_repeatOf : MethodName := ⟨"NetJoins", "repeatOf", "(III)LNetJoins$Sheet;"⟩
theorem ok_NJ_repeatOf : vOK y_NJ_repeatOf c_NJ_repeatOf 6 (some (.object "NetJoins$Sheet")) 3 := ⟨kw_545, kw_544, ks_29, kw_1, by decide +kernel⟩
theorem d_NJ_repeatOf_0 : decode c_NJ_repeatOf 0 = .ok (.aload_n 0, 1) := by decide +kernel
theorem d_NJ_repeatOf_1 : decode c_NJ_repeatOf 1 = .ok (.getfield 12, 3) := by decide +kernel
theorem d_NJ_repeatOf_4 : decode c_NJ_repeatOf 4 = .ok (.iload_n 1, 1) := by decide +kernel
theorem d_NJ_repeatOf_5 : decode c_NJ_repeatOf 5 = .ok (.invokevirtual 172, 3) := by decide +kernel
theorem d_NJ_repeatOf_8 : decode c_NJ_repeatOf 8 = .ok (.checkcast 80, 3) := by decide +kernel
theorem d_NJ_repeatOf_11 : decode c_NJ_repeatOf 11 = .ok (.astore 4, 2) := by decide +kernel
theorem d_NJ_repeatOf_13 : decode c_NJ_repeatOf 13 = .ok (.new 80, 3) := by decide +kernel
theorem d_NJ_repeatOf_16 : decode c_NJ_repeatOf 16 = .ok (.dup, 1) := by decide +kernel
theorem d_NJ_repeatOf_17 : decode c_NJ_repeatOf 17 = .ok (.iload_n 2, 1) := by decide +kernel
theorem d_NJ_repeatOf_18 : decode c_NJ_repeatOf 18 = .ok (.iload_n 3, 1) := by decide +kernel
theorem d_NJ_repeatOf_19 : decode c_NJ_repeatOf 19 = .ok (.iload_n 1, 1) := by decide +kernel
theorem d_NJ_repeatOf_20 : decode c_NJ_repeatOf 20 = .ok (.aload 4, 2) := by decide +kernel
theorem d_NJ_repeatOf_22 : decode c_NJ_repeatOf 22 = .ok (.getfield 322, 3) := by decide +kernel
theorem d_NJ_repeatOf_25 : decode c_NJ_repeatOf 25 = .ok (.invokespecial 82, 3) := by decide +kernel
theorem d_NJ_repeatOf_28 : decode c_NJ_repeatOf 28 = .ok (.astore 5, 2) := by decide +kernel
theorem d_NJ_repeatOf_30 : decode c_NJ_repeatOf 30 = .ok (.aload 4, 2) := by decide +kernel
theorem d_NJ_repeatOf_32 : decode c_NJ_repeatOf 32 = .ok (.dup, 1) := by decide +kernel
theorem d_NJ_repeatOf_33 : decode c_NJ_repeatOf 33 = .ok (.getfield 322, 3) := by decide +kernel
theorem d_NJ_repeatOf_36 : decode c_NJ_repeatOf 36 = .ok (.iconst 1, 1) := by decide +kernel
theorem d_NJ_repeatOf_37 : decode c_NJ_repeatOf 37 = .ok (.iadd, 1) := by decide +kernel
theorem d_NJ_repeatOf_38 : decode c_NJ_repeatOf 38 = .ok (.putfield 322, 3) := by decide +kernel
theorem d_NJ_repeatOf_41 : decode c_NJ_repeatOf 41 = .ok (.aload 5, 2) := by decide +kernel
theorem d_NJ_repeatOf_43 : decode c_NJ_repeatOf 43 = .ok (.areturn, 1) := by decide +kernel
abbrev c_NJ_keepUp : ByteArray := prog_1_method_51_code
def y_NJ_keepUp : MethodName := ⟨"NetJoins", "keepUp", "()V"⟩
theorem ok_NJ_keepUp : vOK y_NJ_keepUp c_NJ_keepUp 1 none 0 := ⟨kw_609, kw_608, ks_33, kw_1, by decide +kernel⟩
theorem d_NJ_keepUp_0 : decode c_NJ_keepUp 0 = .ok (.aload_n 0, 1) := by decide +kernel
theorem d_NJ_keepUp_1 : decode c_NJ_keepUp 1 = .ok (.getfield 56, 3) := by decide +kernel
theorem d_NJ_keepUp_4 : decode c_NJ_keepUp 4 = .ok (.invokevirtual 269, 3) := by decide +kernel
theorem d_NJ_keepUp_7 : decode c_NJ_keepUp 7 = .ok (.aload_n 0, 1) := by decide +kernel
theorem d_NJ_keepUp_8 : decode c_NJ_keepUp 8 = .ok (.invokevirtual 272, 3) := by decide +kernel
theorem d_NJ_keepUp_11 : decode c_NJ_keepUp 11 = .ok (.aload_n 0, 1) := by decide +kernel
theorem d_NJ_keepUp_12 : decode c_NJ_keepUp 12 = .ok (.getfield 56, 3) := by decide +kernel
theorem d_NJ_keepUp_15 : decode c_NJ_keepUp 15 = .ok (.invokevirtual 411, 3) := by decide +kernel
theorem d_NJ_keepUp_18 : decode c_NJ_keepUp 18 = .ok (.aload_n 0, 1) := by decide +kernel
theorem d_NJ_keepUp_19 : decode c_NJ_keepUp 19 = .ok (.iconst 0, 1) := by decide +kernel
theorem d_NJ_keepUp_20 : decode c_NJ_keepUp 20 = .ok (.putfield 414, 3) := by decide +kernel
theorem d_NJ_keepUp_23 : decode c_NJ_keepUp 23 = .ok (.aload_n 0, 1) := by decide +kernel
theorem d_NJ_keepUp_24 : decode c_NJ_keepUp 24 = .ok (.iconst 0, 1) := by decide +kernel
theorem d_NJ_keepUp_25 : decode c_NJ_keepUp 25 = .ok (.putfield 210, 3) := by decide +kernel
theorem d_NJ_keepUp_28 : decode c_NJ_keepUp 28 = .ok (.return_, 1) := by decide +kernel
abbrev c_NJ_joinThroughJunctions : ByteArray := prog_1_method_32_code
def y_NJ_joinThroughJunctions : MethodName := ⟨"NetJoins", "joinThroughJunctions", "(LNetJoins$Wire;)V"⟩
theorem ok_NJ_joinThroughJunctions : vOK y_NJ_joinThroughJunctions c_NJ_joinThroughJunctions 3 none 1 := ⟨kw_677, kw_676, ks_34, kw_1, by decide +kernel⟩
theorem d_NJ_joinThroughJunctions_0 : decode c_NJ_joinThroughJunctions 0 = .ok (.iconst 0, 1) := by decide +kernel
theorem d_NJ_joinThroughJunctions_1 : decode c_NJ_joinThroughJunctions 1 = .ok (.istore_n 2, 1) := by decide +kernel
theorem d_NJ_joinThroughJunctions_2 : decode c_NJ_joinThroughJunctions 2 = .ok (.iload_n 2, 1) := by decide +kernel
theorem d_NJ_joinThroughJunctions_3 : decode c_NJ_joinThroughJunctions 3 = .ok (.aload_n 0, 1) := by decide +kernel
theorem d_NJ_joinThroughJunctions_4 : decode c_NJ_joinThroughJunctions 4 = .ok (.getfield 19, 3) := by decide +kernel
theorem d_NJ_joinThroughJunctions_7 : decode c_NJ_joinThroughJunctions 7 = .ok (.invokevirtual 76, 3) := by decide +kernel
theorem d_NJ_joinThroughJunctions_10 : decode c_NJ_joinThroughJunctions 10 = .ok (.if_icmp .ge 42, 3) := by decide +kernel
theorem d_NJ_joinThroughJunctions_13 : decode c_NJ_joinThroughJunctions 13 = .ok (.aload_n 1, 1) := by decide +kernel
theorem d_NJ_joinThroughJunctions_14 : decode c_NJ_joinThroughJunctions 14 = .ok (.aload_n 0, 1) := by decide +kernel
theorem d_NJ_joinThroughJunctions_15 : decode c_NJ_joinThroughJunctions 15 = .ok (.getfield 19, 3) := by decide +kernel
theorem d_NJ_joinThroughJunctions_18 : decode c_NJ_joinThroughJunctions 18 = .ok (.iload_n 2, 1) := by decide +kernel
theorem d_NJ_joinThroughJunctions_19 : decode c_NJ_joinThroughJunctions 19 = .ok (.invokevirtual 172, 3) := by decide +kernel
theorem d_NJ_joinThroughJunctions_22 : decode c_NJ_joinThroughJunctions 22 = .ok (.checkcast 140, 3) := by decide +kernel
theorem d_NJ_joinThroughJunctions_25 : decode c_NJ_joinThroughJunctions 25 = .ok (.invokevirtual 341, 3) := by decide +kernel
theorem d_NJ_joinThroughJunctions_28 : decode c_NJ_joinThroughJunctions 28 = .ok (.ifCond .eq 18, 3) := by decide +kernel
theorem d_NJ_joinThroughJunctions_31 : decode c_NJ_joinThroughJunctions 31 = .ok (.aload_n 0, 1) := by decide +kernel
theorem d_NJ_joinThroughJunctions_32 : decode c_NJ_joinThroughJunctions 32 = .ok (.aload_n 0, 1) := by decide +kernel
theorem d_NJ_joinThroughJunctions_33 : decode c_NJ_joinThroughJunctions 33 = .ok (.getfield 19, 3) := by decide +kernel
theorem d_NJ_joinThroughJunctions_36 : decode c_NJ_joinThroughJunctions 36 = .ok (.iload_n 2, 1) := by decide +kernel
theorem d_NJ_joinThroughJunctions_37 : decode c_NJ_joinThroughJunctions 37 = .ok (.invokevirtual 172, 3) := by decide +kernel
theorem d_NJ_joinThroughJunctions_40 : decode c_NJ_joinThroughJunctions 40 = .ok (.checkcast 140, 3) := by decide +kernel
theorem d_NJ_joinThroughJunctions_43 : decode c_NJ_joinThroughJunctions 43 = .ok (.invokevirtual 145, 3) := by decide +kernel
theorem d_NJ_joinThroughJunctions_46 : decode c_NJ_joinThroughJunctions 46 = .ok (.iinc 2 1, 3) := by decide +kernel
theorem d_NJ_joinThroughJunctions_49 : decode c_NJ_joinThroughJunctions 49 = .ok (.goto (-47), 3) := by decide +kernel
theorem d_NJ_joinThroughJunctions_52 : decode c_NJ_joinThroughJunctions 52 = .ok (.return_, 1) := by decide +kernel
abbrev c_NJ_joinWithSpots : ByteArray := prog_1_method_34_code
def y_NJ_joinWithSpots : MethodName := ⟨"NetJoins", "joinWithSpots", "(LNetJoins$Wire;Ljava/util/ArrayList;)V"⟩
theorem ok_NJ_joinWithSpots : vOK y_NJ_joinWithSpots c_NJ_joinWithSpots 4 none 2 := ⟨kw_681, kw_680, ks_35, kw_1, by decide +kernel⟩
theorem d_NJ_joinWithSpots_0 : decode c_NJ_joinWithSpots 0 = .ok (.iconst 0, 1) := by decide +kernel
theorem d_NJ_joinWithSpots_1 : decode c_NJ_joinWithSpots 1 = .ok (.istore_n 3, 1) := by decide +kernel
theorem d_NJ_joinWithSpots_2 : decode c_NJ_joinWithSpots 2 = .ok (.iload_n 3, 1) := by decide +kernel
theorem d_NJ_joinWithSpots_3 : decode c_NJ_joinWithSpots 3 = .ok (.aload_n 2, 1) := by decide +kernel
theorem d_NJ_joinWithSpots_4 : decode c_NJ_joinWithSpots 4 = .ok (.invokevirtual 76, 3) := by decide +kernel
theorem d_NJ_joinWithSpots_7 : decode c_NJ_joinWithSpots 7 = .ok (.if_icmp .ge 46, 3) := by decide +kernel
theorem d_NJ_joinWithSpots_10 : decode c_NJ_joinWithSpots 10 = .ok (.aload_n 1, 1) := by decide +kernel
theorem d_NJ_joinWithSpots_11 : decode c_NJ_joinWithSpots 11 = .ok (.aload_n 2, 1) := by decide +kernel
theorem d_NJ_joinWithSpots_12 : decode c_NJ_joinWithSpots 12 = .ok (.iload_n 3, 1) := by decide +kernel
theorem d_NJ_joinWithSpots_13 : decode c_NJ_joinWithSpots 13 = .ok (.invokevirtual 172, 3) := by decide +kernel
theorem d_NJ_joinWithSpots_16 : decode c_NJ_joinWithSpots 16 = .ok (.checkcast 140, 3) := by decide +kernel
theorem d_NJ_joinWithSpots_19 : decode c_NJ_joinWithSpots 19 = .ok (.invokevirtual 341, 3) := by decide +kernel
theorem d_NJ_joinWithSpots_22 : decode c_NJ_joinWithSpots 22 = .ok (.ifCond .eq 25, 3) := by decide +kernel
theorem d_NJ_joinWithSpots_25 : decode c_NJ_joinWithSpots 25 = .ok (.aload_n 0, 1) := by decide +kernel
theorem d_NJ_joinWithSpots_26 : decode c_NJ_joinWithSpots 26 = .ok (.getfield 46, 3) := by decide +kernel
theorem d_NJ_joinWithSpots_29 : decode c_NJ_joinWithSpots 29 = .ok (.aload_n 1, 1) := by decide +kernel
theorem d_NJ_joinWithSpots_30 : decode c_NJ_joinWithSpots 30 = .ok (.invokestatic 337, 3) := by decide +kernel
theorem d_NJ_joinWithSpots_33 : decode c_NJ_joinWithSpots 33 = .ok (.aload_n 2, 1) := by decide +kernel
theorem d_NJ_joinWithSpots_34 : decode c_NJ_joinWithSpots 34 = .ok (.iload_n 3, 1) := by decide +kernel
theorem d_NJ_joinWithSpots_35 : decode c_NJ_joinWithSpots 35 = .ok (.invokevirtual 172, 3) := by decide +kernel
theorem d_NJ_joinWithSpots_38 : decode c_NJ_joinWithSpots 38 = .ok (.checkcast 140, 3) := by decide +kernel
theorem d_NJ_joinWithSpots_41 : decode c_NJ_joinWithSpots 41 = .ok (.getfield 345, 3) := by decide +kernel
theorem d_NJ_joinWithSpots_44 : decode c_NJ_joinWithSpots 44 = .ok (.invokevirtual 192, 3) := by decide +kernel
theorem d_NJ_joinWithSpots_47 : decode c_NJ_joinWithSpots 47 = .ok (.iinc 3 1, 3) := by decide +kernel
theorem d_NJ_joinWithSpots_50 : decode c_NJ_joinWithSpots 50 = .ok (.goto (-48), 3) := by decide +kernel
theorem d_NJ_joinWithSpots_53 : decode c_NJ_joinWithSpots 53 = .ok (.return_, 1) := by decide +kernel
abbrev c_NJ_spreadOver : ByteArray := prog_1_method_42_code
def y_NJ_spreadOver : MethodName := ⟨"NetJoins", "spreadOver", "(I)V"⟩
theorem ok_NJ_spreadOver : vOK y_NJ_spreadOver c_NJ_spreadOver 3 none 1 := ⟨kw_685, kw_684, ks_36, kw_1, by decide +kernel⟩
theorem d_NJ_spreadOver_0 : decode c_NJ_spreadOver 0 = .ok (.iconst 0, 1) := by decide +kernel
theorem d_NJ_spreadOver_1 : decode c_NJ_spreadOver 1 = .ok (.istore_n 2, 1) := by decide +kernel
theorem d_NJ_spreadOver_2 : decode c_NJ_spreadOver 2 = .ok (.iload_n 2, 1) := by decide +kernel
theorem d_NJ_spreadOver_3 : decode c_NJ_spreadOver 3 = .ok (.aload_n 0, 1) := by decide +kernel
theorem d_NJ_spreadOver_4 : decode c_NJ_spreadOver 4 = .ok (.getfield 12, 3) := by decide +kernel
theorem d_NJ_spreadOver_7 : decode c_NJ_spreadOver 7 = .ok (.invokevirtual 76, 3) := by decide +kernel
theorem d_NJ_spreadOver_10 : decode c_NJ_spreadOver 10 = .ok (.if_icmp .ge 42, 3) := by decide +kernel
theorem d_NJ_spreadOver_13 : decode c_NJ_spreadOver 13 = .ok (.aload_n 0, 1) := by decide +kernel
theorem d_NJ_spreadOver_14 : decode c_NJ_spreadOver 14 = .ok (.getfield 12, 3) := by decide +kernel
theorem d_NJ_spreadOver_17 : decode c_NJ_spreadOver 17 = .ok (.iload_n 2, 1) := by decide +kernel
theorem d_NJ_spreadOver_18 : decode c_NJ_spreadOver 18 = .ok (.invokevirtual 172, 3) := by decide +kernel
theorem d_NJ_spreadOver_21 : decode c_NJ_spreadOver 21 = .ok (.checkcast 80, 3) := by decide +kernel
theorem d_NJ_spreadOver_24 : decode c_NJ_spreadOver 24 = .ok (.getfield 202, 3) := by decide +kernel
theorem d_NJ_spreadOver_27 : decode c_NJ_spreadOver 27 = .ok (.iload_n 1, 1) := by decide +kernel
theorem d_NJ_spreadOver_28 : decode c_NJ_spreadOver 28 = .ok (.if_icmp .ne 18, 3) := by decide +kernel
theorem d_NJ_spreadOver_31 : decode c_NJ_spreadOver 31 = .ok (.aload_n 0, 1) := by decide +kernel
theorem d_NJ_spreadOver_32 : decode c_NJ_spreadOver 32 = .ok (.aload_n 0, 1) := by decide +kernel
theorem d_NJ_spreadOver_33 : decode c_NJ_spreadOver 33 = .ok (.getfield 12, 3) := by decide +kernel
theorem d_NJ_spreadOver_36 : decode c_NJ_spreadOver 36 = .ok (.iload_n 2, 1) := by decide +kernel
theorem d_NJ_spreadOver_37 : decode c_NJ_spreadOver 37 = .ok (.invokevirtual 172, 3) := by decide +kernel
theorem d_NJ_spreadOver_40 : decode c_NJ_spreadOver 40 = .ok (.checkcast 80, 3) := by decide +kernel
theorem d_NJ_spreadOver_43 : decode c_NJ_spreadOver 43 = .ok (.invokevirtual 96, 3) := by decide +kernel
theorem d_NJ_spreadOver_46 : decode c_NJ_spreadOver 46 = .ok (.iinc 2 1, 3) := by decide +kernel
theorem d_NJ_spreadOver_49 : decode c_NJ_spreadOver 49 = .ok (.goto (-47), 3) := by decide +kernel
theorem d_NJ_spreadOver_52 : decode c_NJ_spreadOver 52 = .ok (.return_, 1) := by decide +kernel
abbrev c_NJ_putByName : ByteArray := prog_1_method_53_code
def y_NJ_putByName : MethodName := ⟨"NetJoins", "putByName", "(LNetJoins$Spot;)V"⟩
theorem ok_NJ_putByName : vOK y_NJ_putByName c_NJ_putByName 3 none 1 := ⟨kw_739, kw_738, ks_37, kw_1, by decide +kernel⟩
theorem d_NJ_putByName_0 : decode c_NJ_putByName 0 = .ok (.iconst 0, 1) := by decide +kernel
theorem d_NJ_putByName_1 : decode c_NJ_putByName 1 = .ok (.istore_n 2, 1) := by decide +kernel
theorem d_NJ_putByName_2 : decode c_NJ_putByName 2 = .ok (.iload_n 2, 1) := by decide +kernel
theorem d_NJ_putByName_3 : decode c_NJ_putByName 3 = .ok (.aload_n 0, 1) := by decide +kernel
theorem d_NJ_putByName_4 : decode c_NJ_putByName 4 = .ok (.getfield 25, 3) := by decide +kernel
theorem d_NJ_putByName_7 : decode c_NJ_putByName 7 = .ok (.invokevirtual 76, 3) := by decide +kernel
theorem d_NJ_putByName_10 : decode c_NJ_putByName 10 = .ok (.if_icmp .ge 30, 3) := by decide +kernel
theorem d_NJ_putByName_13 : decode c_NJ_putByName 13 = .ok (.aload_n 0, 1) := by decide +kernel
theorem d_NJ_putByName_14 : decode c_NJ_putByName 14 = .ok (.getfield 25, 3) := by decide +kernel
theorem d_NJ_putByName_17 : decode c_NJ_putByName 17 = .ok (.iload_n 2, 1) := by decide +kernel
theorem d_NJ_putByName_18 : decode c_NJ_putByName 18 = .ok (.invokevirtual 172, 3) := by decide +kernel
theorem d_NJ_putByName_21 : decode c_NJ_putByName 21 = .ok (.checkcast 140, 3) := by decide +kernel
theorem d_NJ_putByName_24 : decode c_NJ_putByName 24 = .ok (.getfield 176, 3) := by decide +kernel
theorem d_NJ_putByName_27 : decode c_NJ_putByName 27 = .ok (.aload_n 1, 1) := by decide +kernel
theorem d_NJ_putByName_28 : decode c_NJ_putByName 28 = .ok (.getfield 176, 3) := by decide +kernel
theorem d_NJ_putByName_31 : decode c_NJ_putByName 31 = .ok (.if_icmp .gt 9, 3) := by decide +kernel
theorem d_NJ_putByName_34 : decode c_NJ_putByName 34 = .ok (.iinc 2 1, 3) := by decide +kernel
theorem d_NJ_putByName_37 : decode c_NJ_putByName 37 = .ok (.goto (-35), 3) := by decide +kernel
theorem d_NJ_putByName_40 : decode c_NJ_putByName 40 = .ok (.aload_n 0, 1) := by decide +kernel
theorem d_NJ_putByName_41 : decode c_NJ_putByName 41 = .ok (.getfield 25, 3) := by decide +kernel
theorem d_NJ_putByName_44 : decode c_NJ_putByName 44 = .ok (.iload_n 2, 1) := by decide +kernel
theorem d_NJ_putByName_45 : decode c_NJ_putByName 45 = .ok (.aload_n 1, 1) := by decide +kernel
theorem d_NJ_putByName_46 : decode c_NJ_putByName 46 = .ok (.invokevirtual 423, 3) := by decide +kernel
theorem d_NJ_putByName_49 : decode c_NJ_putByName 49 = .ok (.return_, 1) := by decide +kernel
abbrev c_NJ_hasPinOf : ByteArray := prog_1_method_26_code
def y_NJ_hasPinOf : MethodName := ⟨"NetJoins", "hasPinOf", "(IIJJ)Z"⟩
theorem ok_NJ_hasPinOf : vOK y_NJ_hasPinOf c_NJ_hasPinOf 9 (some .boolean) 4 := ⟨kw_996, kw_995, ks_40, kw_1, by decide +kernel⟩
theorem d_NJ_hasPinOf_0 : decode c_NJ_hasPinOf 0 = .ok (.iconst 0, 1) := by decide +kernel
theorem d_NJ_hasPinOf_1 : decode c_NJ_hasPinOf 1 = .ok (.istore 7, 2) := by decide +kernel
theorem d_NJ_hasPinOf_3 : decode c_NJ_hasPinOf 3 = .ok (.iload 7, 2) := by decide +kernel
theorem d_NJ_hasPinOf_5 : decode c_NJ_hasPinOf 5 = .ok (.aload_n 0, 1) := by decide +kernel
theorem d_NJ_hasPinOf_6 : decode c_NJ_hasPinOf 6 = .ok (.getfield 28, 3) := by decide +kernel
theorem d_NJ_hasPinOf_9 : decode c_NJ_hasPinOf 9 = .ok (.invokevirtual 76, 3) := by decide +kernel
theorem d_NJ_hasPinOf_12 : decode c_NJ_hasPinOf 12 = .ok (.if_icmp .ge 46, 3) := by decide +kernel
theorem d_NJ_hasPinOf_15 : decode c_NJ_hasPinOf 15 = .ok (.aload_n 0, 1) := by decide +kernel
theorem d_NJ_hasPinOf_16 : decode c_NJ_hasPinOf 16 = .ok (.getfield 28, 3) := by decide +kernel
theorem d_NJ_hasPinOf_19 : decode c_NJ_hasPinOf 19 = .ok (.iload 7, 2) := by decide +kernel
theorem d_NJ_hasPinOf_21 : decode c_NJ_hasPinOf 21 = .ok (.invokevirtual 172, 3) := by decide +kernel
theorem d_NJ_hasPinOf_24 : decode c_NJ_hasPinOf 24 = .ok (.checkcast 140, 3) := by decide +kernel
theorem d_NJ_hasPinOf_27 : decode c_NJ_hasPinOf 27 = .ok (.astore 8, 2) := by decide +kernel
theorem d_NJ_hasPinOf_29 : decode c_NJ_hasPinOf 29 = .ok (.aload 8, 2) := by decide +kernel
theorem d_NJ_hasPinOf_31 : decode c_NJ_hasPinOf 31 = .ok (.getfield 176, 3) := by decide +kernel
theorem d_NJ_hasPinOf_34 : decode c_NJ_hasPinOf 34 = .ok (.iload_n 1, 1) := by decide +kernel
theorem d_NJ_hasPinOf_35 : decode c_NJ_hasPinOf 35 = .ok (.if_icmp .ne 17, 3) := by decide +kernel
theorem d_NJ_hasPinOf_38 : decode c_NJ_hasPinOf 38 = .ok (.aload 8, 2) := by decide +kernel
theorem d_NJ_hasPinOf_40 : decode c_NJ_hasPinOf 40 = .ok (.iload_n 2, 1) := by decide +kernel
theorem d_NJ_hasPinOf_41 : decode c_NJ_hasPinOf 41 = .ok (.lload_n 3, 1) := by decide +kernel
theorem d_NJ_hasPinOf_42 : decode c_NJ_hasPinOf 42 = .ok (.lload 5, 2) := by decide +kernel
theorem d_NJ_hasPinOf_44 : decode c_NJ_hasPinOf 44 = .ok (.invokevirtual 303, 3) := by decide +kernel
theorem d_NJ_hasPinOf_47 : decode c_NJ_hasPinOf 47 = .ok (.ifCond .eq 5, 3) := by decide +kernel
theorem d_NJ_hasPinOf_50 : decode c_NJ_hasPinOf 50 = .ok (.iconst 1, 1) := by decide +kernel
theorem d_NJ_hasPinOf_51 : decode c_NJ_hasPinOf 51 = .ok (.ireturn, 1) := by decide +kernel
theorem d_NJ_hasPinOf_52 : decode c_NJ_hasPinOf 52 = .ok (.iinc 7 1, 3) := by decide +kernel
theorem d_NJ_hasPinOf_55 : decode c_NJ_hasPinOf 55 = .ok (.goto (-52), 3) := by decide +kernel
theorem d_NJ_hasPinOf_58 : decode c_NJ_hasPinOf 58 = .ok (.iconst 0, 1) := by decide +kernel
theorem d_NJ_hasPinOf_59 : decode c_NJ_hasPinOf 59 = .ok (.ireturn, 1) := by decide +kernel
abbrev c_NJ_hasPort : ByteArray := prog_1_method_27_code
def y_NJ_hasPort : MethodName := ⟨"NetJoins", "hasPort", "(III)Z"⟩
theorem ok_NJ_hasPort : vOK y_NJ_hasPort c_NJ_hasPort 6 (some .boolean) 3 := ⟨kw_1017, kw_1016, ks_43, kw_1, by decide +kernel⟩
theorem d_NJ_hasPort_0 : decode c_NJ_hasPort 0 = .ok (.iconst 0, 1) := by decide +kernel
theorem d_NJ_hasPort_1 : decode c_NJ_hasPort 1 = .ok (.istore 4, 2) := by decide +kernel
theorem d_NJ_hasPort_3 : decode c_NJ_hasPort 3 = .ok (.iload 4, 2) := by decide +kernel
theorem d_NJ_hasPort_5 : decode c_NJ_hasPort 5 = .ok (.aload_n 0, 1) := by decide +kernel
theorem d_NJ_hasPort_6 : decode c_NJ_hasPort 6 = .ok (.getfield 31, 3) := by decide +kernel
theorem d_NJ_hasPort_9 : decode c_NJ_hasPort 9 = .ok (.invokevirtual 76, 3) := by decide +kernel
theorem d_NJ_hasPort_12 : decode c_NJ_hasPort 12 = .ok (.if_icmp .ge 52, 3) := by decide +kernel
theorem d_NJ_hasPort_15 : decode c_NJ_hasPort 15 = .ok (.aload_n 0, 1) := by decide +kernel
theorem d_NJ_hasPort_16 : decode c_NJ_hasPort 16 = .ok (.getfield 31, 3) := by decide +kernel
theorem d_NJ_hasPort_19 : decode c_NJ_hasPort 19 = .ok (.iload 4, 2) := by decide +kernel
theorem d_NJ_hasPort_21 : decode c_NJ_hasPort 21 = .ok (.invokevirtual 172, 3) := by decide +kernel
theorem d_NJ_hasPort_24 : decode c_NJ_hasPort 24 = .ok (.checkcast 187, 3) := by decide +kernel
theorem d_NJ_hasPort_27 : decode c_NJ_hasPort 27 = .ok (.astore 5, 2) := by decide +kernel
theorem d_NJ_hasPort_29 : decode c_NJ_hasPort 29 = .ok (.aload 5, 2) := by decide +kernel
theorem d_NJ_hasPort_31 : decode c_NJ_hasPort 31 = .ok (.getfield 307, 3) := by decide +kernel
theorem d_NJ_hasPort_34 : decode c_NJ_hasPort 34 = .ok (.iload_n 1, 1) := by decide +kernel
theorem d_NJ_hasPort_35 : decode c_NJ_hasPort 35 = .ok (.if_icmp .ne 23, 3) := by decide +kernel
theorem d_NJ_hasPort_38 : decode c_NJ_hasPort 38 = .ok (.aload 5, 2) := by decide +kernel
theorem d_NJ_hasPort_40 : decode c_NJ_hasPort 40 = .ok (.getfield 308, 3) := by decide +kernel
theorem d_NJ_hasPort_43 : decode c_NJ_hasPort 43 = .ok (.iload_n 2, 1) := by decide +kernel
theorem d_NJ_hasPort_44 : decode c_NJ_hasPort 44 = .ok (.if_icmp .ne 14, 3) := by decide +kernel
theorem d_NJ_hasPort_47 : decode c_NJ_hasPort 47 = .ok (.aload 5, 2) := by decide +kernel
theorem d_NJ_hasPort_49 : decode c_NJ_hasPort 49 = .ok (.getfield 311, 3) := by decide +kernel
theorem d_NJ_hasPort_52 : decode c_NJ_hasPort 52 = .ok (.iload_n 3, 1) := by decide +kernel
theorem d_NJ_hasPort_53 : decode c_NJ_hasPort 53 = .ok (.if_icmp .ne 5, 3) := by decide +kernel
theorem d_NJ_hasPort_56 : decode c_NJ_hasPort 56 = .ok (.iconst 1, 1) := by decide +kernel
theorem d_NJ_hasPort_57 : decode c_NJ_hasPort 57 = .ok (.ireturn, 1) := by decide +kernel
theorem d_NJ_hasPort_58 : decode c_NJ_hasPort 58 = .ok (.iinc 4 1, 3) := by decide +kernel
theorem d_NJ_hasPort_61 : decode c_NJ_hasPort 61 = .ok (.goto (-58), 3) := by decide +kernel
theorem d_NJ_hasPort_64 : decode c_NJ_hasPort 64 = .ok (.iconst 0, 1) := by decide +kernel
theorem d_NJ_hasPort_65 : decode c_NJ_hasPort 65 = .ok (.ireturn, 1) := by decide +kernel
abbrev c_NJ_hasBus : ByteArray := prog_1_method_28_code
def y_NJ_hasBus : MethodName := ⟨"NetJoins", "hasBus", "(IIII)Z"⟩
theorem ok_NJ_hasBus : vOK y_NJ_hasBus c_NJ_hasBus 7 (some .boolean) 4 := ⟨kw_1054, kw_1053, ks_44, kw_1, by decide +kernel⟩
theorem d_NJ_hasBus_0 : decode c_NJ_hasBus 0 = .ok (.iconst 0, 1) := by decide +kernel
theorem d_NJ_hasBus_1 : decode c_NJ_hasBus 1 = .ok (.istore 5, 2) := by decide +kernel
theorem d_NJ_hasBus_3 : decode c_NJ_hasBus 3 = .ok (.iload 5, 2) := by decide +kernel
theorem d_NJ_hasBus_5 : decode c_NJ_hasBus 5 = .ok (.aload_n 0, 1) := by decide +kernel
theorem d_NJ_hasBus_6 : decode c_NJ_hasBus 6 = .ok (.getfield 34, 3) := by decide +kernel
theorem d_NJ_hasBus_9 : decode c_NJ_hasBus 9 = .ok (.invokevirtual 76, 3) := by decide +kernel
theorem d_NJ_hasBus_12 : decode c_NJ_hasBus 12 = .ok (.if_icmp .ge 62, 3) := by decide +kernel
theorem d_NJ_hasBus_15 : decode c_NJ_hasBus 15 = .ok (.aload_n 0, 1) := by decide +kernel
theorem d_NJ_hasBus_16 : decode c_NJ_hasBus 16 = .ok (.getfield 34, 3) := by decide +kernel
theorem d_NJ_hasBus_19 : decode c_NJ_hasBus 19 = .ok (.iload 5, 2) := by decide +kernel
theorem d_NJ_hasBus_21 : decode c_NJ_hasBus 21 = .ok (.invokevirtual 172, 3) := by decide +kernel
theorem d_NJ_hasBus_24 : decode c_NJ_hasBus 24 = .ok (.checkcast 199, 3) := by decide +kernel
theorem d_NJ_hasBus_27 : decode c_NJ_hasBus 27 = .ok (.astore 6, 2) := by decide +kernel
theorem d_NJ_hasBus_29 : decode c_NJ_hasBus 29 = .ok (.aload 6, 2) := by decide +kernel
theorem d_NJ_hasBus_31 : decode c_NJ_hasBus 31 = .ok (.getfield 314, 3) := by decide +kernel
theorem d_NJ_hasBus_34 : decode c_NJ_hasBus 34 = .ok (.iload_n 1, 1) := by decide +kernel
theorem d_NJ_hasBus_35 : decode c_NJ_hasBus 35 = .ok (.if_icmp .ne 33, 3) := by decide +kernel
theorem d_NJ_hasBus_38 : decode c_NJ_hasBus 38 = .ok (.aload 6, 2) := by decide +kernel
theorem d_NJ_hasBus_40 : decode c_NJ_hasBus 40 = .ok (.getfield 315, 3) := by decide +kernel
theorem d_NJ_hasBus_43 : decode c_NJ_hasBus 43 = .ok (.iload_n 2, 1) := by decide +kernel
theorem d_NJ_hasBus_44 : decode c_NJ_hasBus 44 = .ok (.if_icmp .ne 24, 3) := by decide +kernel
theorem d_NJ_hasBus_47 : decode c_NJ_hasBus 47 = .ok (.aload 6, 2) := by decide +kernel
theorem d_NJ_hasBus_49 : decode c_NJ_hasBus 49 = .ok (.getfield 316, 3) := by decide +kernel
theorem d_NJ_hasBus_52 : decode c_NJ_hasBus 52 = .ok (.iload_n 3, 1) := by decide +kernel
theorem d_NJ_hasBus_53 : decode c_NJ_hasBus 53 = .ok (.if_icmp .ne 15, 3) := by decide +kernel
theorem d_NJ_hasBus_56 : decode c_NJ_hasBus 56 = .ok (.aload 6, 2) := by decide +kernel
theorem d_NJ_hasBus_58 : decode c_NJ_hasBus 58 = .ok (.getfield 319, 3) := by decide +kernel
theorem d_NJ_hasBus_61 : decode c_NJ_hasBus 61 = .ok (.iload 4, 2) := by decide +kernel
theorem d_NJ_hasBus_63 : decode c_NJ_hasBus 63 = .ok (.if_icmp .ne 5, 3) := by decide +kernel
theorem d_NJ_hasBus_66 : decode c_NJ_hasBus 66 = .ok (.iconst 1, 1) := by decide +kernel
theorem d_NJ_hasBus_67 : decode c_NJ_hasBus 67 = .ok (.ireturn, 1) := by decide +kernel
theorem d_NJ_hasBus_68 : decode c_NJ_hasBus 68 = .ok (.iinc 5 1, 3) := by decide +kernel
theorem d_NJ_hasBus_71 : decode c_NJ_hasBus 71 = .ok (.goto (-68), 3) := by decide +kernel
theorem d_NJ_hasBus_74 : decode c_NJ_hasBus 74 = .ok (.iconst 0, 1) := by decide +kernel
theorem d_NJ_hasBus_75 : decode c_NJ_hasBus 75 = .ok (.ireturn, 1) := by decide +kernel
