abbrev c_Joins_addRow : ByteArray := prog_3_method_3_code
def y_Joins_addRow : MethodName := ⟨"NetJoins$Joins", "addRow", "(II)V"⟩
theorem ok_Joins_addRow : vOK y_Joins_addRow c_Joins_addRow 3 none 2 := ⟨kw_605, kw_603, kw_604, kw_5, by decide +kernel⟩
theorem d_Joins_addRow_0 : decode c_Joins_addRow 0 = .ok (.iload_n 1, 1) := by decide +kernel
theorem d_Joins_addRow_1 : decode c_Joins_addRow 1 = .ok (.ifCond .lt 30, 3) := by decide +kernel
theorem d_Joins_addRow_4 : decode c_Joins_addRow 4 = .ok (.iload_n 1, 1) := by decide +kernel
theorem d_Joins_addRow_5 : decode c_Joins_addRow 5 = .ok (.aload_n 0, 1) := by decide +kernel
theorem d_Joins_addRow_6 : decode c_Joins_addRow 6 = .ok (.getfield 11, 3) := by decide +kernel
theorem d_Joins_addRow_9 : decode c_Joins_addRow 9 = .ok (.arraylength, 1) := by decide +kernel
theorem d_Joins_addRow_10 : decode c_Joins_addRow 10 = .ok (.if_icmp .ge 21, 3) := by decide +kernel
theorem d_Joins_addRow_13 : decode c_Joins_addRow 13 = .ok (.iload_n 2, 1) := by decide +kernel
theorem d_Joins_addRow_14 : decode c_Joins_addRow 14 = .ok (.ifCond .lt 17, 3) := by decide +kernel
theorem d_Joins_addRow_17 : decode c_Joins_addRow 17 = .ok (.aload_n 0, 1) := by decide +kernel
theorem d_Joins_addRow_18 : decode c_Joins_addRow 18 = .ok (.getfield 11, 3) := by decide +kernel
theorem d_Joins_addRow_21 : decode c_Joins_addRow 21 = .ok (.iload_n 1, 1) := by decide +kernel
theorem d_Joins_addRow_22 : decode c_Joins_addRow 22 = .ok (.iload_n 2, 1) := by decide +kernel
theorem d_Joins_addRow_23 : decode c_Joins_addRow 23 = .ok (.newarray .int, 2) := by decide +kernel
theorem d_Joins_addRow_25 : decode c_Joins_addRow 25 = .ok (.aastore, 1) := by decide +kernel
theorem d_Joins_addRow_26 : decode c_Joins_addRow 26 = .ok (.aload_n 0, 1) := by decide +kernel
theorem d_Joins_addRow_27 : decode c_Joins_addRow 27 = .ok (.iload_n 1, 1) := by decide +kernel
theorem d_Joins_addRow_28 : decode c_Joins_addRow 28 = .ok (.invokevirtual 14, 3) := by decide +kernel
theorem d_Joins_addRow_31 : decode c_Joins_addRow 31 = .ok (.return_, 1) := by decide +kernel
abbrev c_Joins_scatter : ByteArray := prog_3_method_4_code
def y_Joins_scatter : MethodName := ⟨"NetJoins$Joins", "scatter", "()V"⟩
theorem ok_Joins_scatter : vOK y_Joins_scatter c_Joins_scatter 2 none 0 := ⟨kw_309, kw_307, kw_308, kw_5, by decide +kernel⟩
theorem d_Joins_scatter_0 : decode c_Joins_scatter 0 = .ok (.iconst 0, 1) := by decide +kernel
theorem d_Joins_scatter_1 : decode c_Joins_scatter 1 = .ok (.istore_n 1, 1) := by decide +kernel
theorem d_Joins_scatter_2 : decode c_Joins_scatter 2 = .ok (.iload_n 1, 1) := by decide +kernel
theorem d_Joins_scatter_3 : decode c_Joins_scatter 3 = .ok (.aload_n 0, 1) := by decide +kernel
theorem d_Joins_scatter_4 : decode c_Joins_scatter 4 = .ok (.getfield 11, 3) := by decide +kernel
theorem d_Joins_scatter_7 : decode c_Joins_scatter 7 = .ok (.arraylength, 1) := by decide +kernel
theorem d_Joins_scatter_8 : decode c_Joins_scatter 8 = .ok (.if_icmp .ge 14, 3) := by decide +kernel
theorem d_Joins_scatter_11 : decode c_Joins_scatter 11 = .ok (.aload_n 0, 1) := by decide +kernel
theorem d_Joins_scatter_12 : decode c_Joins_scatter 12 = .ok (.iload_n 1, 1) := by decide +kernel
theorem d_Joins_scatter_13 : decode c_Joins_scatter 13 = .ok (.invokevirtual 14, 3) := by decide +kernel
theorem d_Joins_scatter_16 : decode c_Joins_scatter 16 = .ok (.iinc 1 1, 3) := by decide +kernel
theorem d_Joins_scatter_19 : decode c_Joins_scatter 19 = .ok (.goto (-17), 3) := by decide +kernel
theorem d_Joins_scatter_22 : decode c_Joins_scatter 22 = .ok (.return_, 1) := by decide +kernel
abbrev c_Tab_init : ByteArray := prog_4_method_1_code
def y_Tab_init : MethodName := ⟨"NetJoins$NetTable", "<init>", "()V"⟩
theorem ok_Tab_init : iOK y_Tab_init c_Tab_init 1 0 := ⟨kw_89, kw_88, kw_6, rfl, by decide +kernel⟩
theorem d_Tab_init_0 : decode c_Tab_init 0 = .ok (.aload_n 0, 1) := by decide +kernel
theorem d_Tab_init_1 : decode c_Tab_init 1 = .ok (.invokespecial 3, 3) := by decide +kernel
theorem d_Tab_init_4 : decode c_Tab_init 4 = .ok (.aload_n 0, 1) := by decide +kernel
theorem d_Tab_init_5 : decode c_Tab_init 5 = .ok (.sipush 960, 3) := by decide +kernel
theorem d_Tab_init_8 : decode c_Tab_init 8 = .ok (.newarray .int, 2) := by decide +kernel
theorem d_Tab_init_10 : decode c_Tab_init 10 = .ok (.putfield 9, 3) := by decide +kernel
theorem d_Tab_init_13 : decode c_Tab_init 13 = .ok (.aload_n 0, 1) := by decide +kernel
theorem d_Tab_init_14 : decode c_Tab_init 14 = .ok (.sipush 960, 3) := by decide +kernel
theorem d_Tab_init_17 : decode c_Tab_init 17 = .ok (.newarray .int, 2) := by decide +kernel
theorem d_Tab_init_19 : decode c_Tab_init 19 = .ok (.putfield 15, 3) := by decide +kernel
theorem d_Tab_init_22 : decode c_Tab_init 22 = .ok (.aload_n 0, 1) := by decide +kernel
theorem d_Tab_init_23 : decode c_Tab_init 23 = .ok (.sipush 960, 3) := by decide +kernel
theorem d_Tab_init_26 : decode c_Tab_init 26 = .ok (.newarray .int, 2) := by decide +kernel
theorem d_Tab_init_28 : decode c_Tab_init 28 = .ok (.putfield 18, 3) := by decide +kernel
theorem d_Tab_init_31 : decode c_Tab_init 31 = .ok (.aload_n 0, 1) := by decide +kernel
theorem d_Tab_init_32 : decode c_Tab_init 32 = .ok (.sipush 960, 3) := by decide +kernel
theorem d_Tab_init_35 : decode c_Tab_init 35 = .ok (.newarray .int, 2) := by decide +kernel
theorem d_Tab_init_37 : decode c_Tab_init 37 = .ok (.putfield 21, 3) := by decide +kernel
theorem d_Tab_init_40 : decode c_Tab_init 40 = .ok (.aload_n 0, 1) := by decide +kernel
theorem d_Tab_init_41 : decode c_Tab_init 41 = .ok (.sipush 960, 3) := by decide +kernel
theorem d_Tab_init_44 : decode c_Tab_init 44 = .ok (.newarray .boolean, 2) := by decide +kernel
theorem d_Tab_init_46 : decode c_Tab_init 46 = .ok (.putfield 24, 3) := by decide +kernel
theorem d_Tab_init_49 : decode c_Tab_init 49 = .ok (.aload_n 0, 1) := by decide +kernel
theorem d_Tab_init_50 : decode c_Tab_init 50 = .ok (.getfield 9, 3) := by decide +kernel
theorem d_Tab_init_53 : decode c_Tab_init 53 = .ok (.iconst (-1), 1) := by decide +kernel
theorem d_Tab_init_54 : decode c_Tab_init 54 = .ok (.invokestatic 28, 3) := by decide +kernel
theorem d_Tab_init_57 : decode c_Tab_init 57 = .ok (.return_, 1) := by decide +kernel
abbrev c_Tab_remember : ByteArray := prog_4_method_2_code
def y_Tab_remember : MethodName := ⟨"NetJoins$NetTable", "remember", "()V"⟩
theorem ok_Tab_remember : vOK y_Tab_remember c_Tab_remember 1 none 0 := ⟨kw_294, kw_292, kw_293, kw_6, by decide +kernel⟩
theorem d_Tab_remember_0 : decode c_Tab_remember 0 = .ok (.aload_n 0, 1) := by decide +kernel
theorem d_Tab_remember_1 : decode c_Tab_remember 1 = .ok (.getfield 9, 3) := by decide +kernel
theorem d_Tab_remember_4 : decode c_Tab_remember 4 = .ok (.iconst 0, 1) := by decide +kernel
theorem d_Tab_remember_5 : decode c_Tab_remember 5 = .ok (.aload_n 0, 1) := by decide +kernel
theorem d_Tab_remember_6 : decode c_Tab_remember 6 = .ok (.getfield 15, 3) := by decide +kernel
theorem d_Tab_remember_9 : decode c_Tab_remember 9 = .ok (.iconst 0, 1) := by decide +kernel
theorem d_Tab_remember_10 : decode c_Tab_remember 10 = .ok (.aload_n 0, 1) := by decide +kernel
theorem d_Tab_remember_11 : decode c_Tab_remember 11 = .ok (.getfield 9, 3) := by decide +kernel
theorem d_Tab_remember_14 : decode c_Tab_remember 14 = .ok (.arraylength, 1) := by decide +kernel
theorem d_Tab_remember_15 : decode c_Tab_remember 15 = .ok (.invokestatic 34, 3) := by decide +kernel
theorem d_Tab_remember_18 : decode c_Tab_remember 18 = .ok (.return_, 1) := by decide +kernel
abbrev c_Tab_begin : ByteArray := prog_4_method_4_code
def y_Tab_begin : MethodName := ⟨"NetJoins$NetTable", "begin", "()V"⟩
theorem ok_Tab_begin : vOK y_Tab_begin c_Tab_begin 1 none 0 := ⟨kw_397, kw_395, kw_396, kw_6, by decide +kernel⟩
theorem d_Tab_begin_0 : decode c_Tab_begin 0 = .ok (.aload_n 0, 1) := by decide +kernel
theorem d_Tab_begin_1 : decode c_Tab_begin 1 = .ok (.getfield 21, 3) := by decide +kernel
theorem d_Tab_begin_4 : decode c_Tab_begin 4 = .ok (.iconst 0, 1) := by decide +kernel
theorem d_Tab_begin_5 : decode c_Tab_begin 5 = .ok (.invokestatic 28, 3) := by decide +kernel
theorem d_Tab_begin_8 : decode c_Tab_begin 8 = .ok (.aload_n 0, 1) := by decide +kernel
theorem d_Tab_begin_9 : decode c_Tab_begin 9 = .ok (.iconst 0, 1) := by decide +kernel
theorem d_Tab_begin_10 : decode c_Tab_begin 10 = .ok (.putfield 44, 3) := by decide +kernel
theorem d_Tab_begin_13 : decode c_Tab_begin 13 = .ok (.return_, 1) := by decide +kernel
abbrev c_Tab_put : ByteArray := prog_4_method_5_code
def y_Tab_put : MethodName := ⟨"NetJoins$NetTable", "put", "(II)V"⟩
theorem ok_Tab_put : vOK y_Tab_put c_Tab_put 3 none 2 := ⟨kw_401, kw_399, kw_400, kw_6, by decide +kernel⟩
theorem d_Tab_put_0 : decode c_Tab_put 0 = .ok (.aload_n 0, 1) := by decide +kernel
theorem d_Tab_put_1 : decode c_Tab_put 1 = .ok (.aload_n 0, 1) := by decide +kernel
theorem d_Tab_put_2 : decode c_Tab_put 2 = .ok (.getfield 40, 3) := by decide +kernel
theorem d_Tab_put_5 : decode c_Tab_put 5 = .ok (.iload_n 1, 1) := by decide +kernel
theorem d_Tab_put_6 : decode c_Tab_put 6 = .ok (.iconst 1, 1) := by decide +kernel
theorem d_Tab_put_7 : decode c_Tab_put 7 = .ok (.iadd, 1) := by decide +kernel
theorem d_Tab_put_8 : decode c_Tab_put 8 = .ok (.invokestatic 47, 3) := by decide +kernel
theorem d_Tab_put_11 : decode c_Tab_put 11 = .ok (.putfield 40, 3) := by decide +kernel
theorem d_Tab_put_14 : decode c_Tab_put 14 = .ok (.aload_n 0, 1) := by decide +kernel
theorem d_Tab_put_15 : decode c_Tab_put 15 = .ok (.getfield 9, 3) := by decide +kernel
theorem d_Tab_put_18 : decode c_Tab_put 18 = .ok (.iload_n 1, 1) := by decide +kernel
theorem d_Tab_put_19 : decode c_Tab_put 19 = .ok (.iload_n 2, 1) := by decide +kernel
theorem d_Tab_put_20 : decode c_Tab_put 20 = .ok (.iastore, 1) := by decide +kernel
theorem d_Tab_put_21 : decode c_Tab_put 21 = .ok (.iload_n 2, 1) := by decide +kernel
theorem d_Tab_put_22 : decode c_Tab_put 22 = .ok (.iload_n 1, 1) := by decide +kernel
theorem d_Tab_put_23 : decode c_Tab_put 23 = .ok (.if_icmp .ne 26, 3) := by decide +kernel
theorem d_Tab_put_26 : decode c_Tab_put 26 = .ok (.aload_n 0, 1) := by decide +kernel
theorem d_Tab_put_27 : decode c_Tab_put 27 = .ok (.getfield 18, 3) := by decide +kernel
theorem d_Tab_put_30 : decode c_Tab_put 30 = .ok (.iload_n 1, 1) := by decide +kernel
theorem d_Tab_put_31 : decode c_Tab_put 31 = .ok (.aload_n 0, 1) := by decide +kernel
theorem d_Tab_put_32 : decode c_Tab_put 32 = .ok (.getfield 44, 3) := by decide +kernel
theorem d_Tab_put_35 : decode c_Tab_put 35 = .ok (.iastore, 1) := by decide +kernel
theorem d_Tab_put_36 : decode c_Tab_put 36 = .ok (.aload_n 0, 1) := by decide +kernel
theorem d_Tab_put_37 : decode c_Tab_put 37 = .ok (.dup, 1) := by decide +kernel
theorem d_Tab_put_38 : decode c_Tab_put 38 = .ok (.getfield 44, 3) := by decide +kernel
theorem d_Tab_put_41 : decode c_Tab_put 41 = .ok (.iconst 1, 1) := by decide +kernel
theorem d_Tab_put_42 : decode c_Tab_put 42 = .ok (.iadd, 1) := by decide +kernel
theorem d_Tab_put_43 : decode c_Tab_put 43 = .ok (.putfield 44, 3) := by decide +kernel
theorem d_Tab_put_46 : decode c_Tab_put 46 = .ok (.goto 15, 3) := by decide +kernel
theorem d_Tab_put_49 : decode c_Tab_put 49 = .ok (.aload_n 0, 1) := by decide +kernel
theorem d_Tab_put_50 : decode c_Tab_put 50 = .ok (.getfield 18, 3) := by decide +kernel
theorem d_Tab_put_53 : decode c_Tab_put 53 = .ok (.iload_n 1, 1) := by decide +kernel
theorem d_Tab_put_54 : decode c_Tab_put 54 = .ok (.aload_n 0, 1) := by decide +kernel
theorem d_Tab_put_55 : decode c_Tab_put 55 = .ok (.getfield 18, 3) := by decide +kernel
theorem d_Tab_put_58 : decode c_Tab_put 58 = .ok (.iload_n 2, 1) := by decide +kernel
theorem d_Tab_put_59 : decode c_Tab_put 59 = .ok (.iaload, 1) := by decide +kernel
theorem d_Tab_put_60 : decode c_Tab_put 60 = .ok (.iastore, 1) := by decide +kernel
theorem d_Tab_put_61 : decode c_Tab_put 61 = .ok (.aload_n 0, 1) := by decide +kernel
theorem d_Tab_put_62 : decode c_Tab_put 62 = .ok (.getfield 21, 3) := by decide +kernel
theorem d_Tab_put_65 : decode c_Tab_put 65 = .ok (.aload_n 0, 1) := by decide +kernel
theorem d_Tab_put_66 : decode c_Tab_put 66 = .ok (.getfield 18, 3) := by decide +kernel
theorem d_Tab_put_69 : decode c_Tab_put 69 = .ok (.iload_n 1, 1) := by decide +kernel
theorem d_Tab_put_70 : decode c_Tab_put 70 = .ok (.iaload, 1) := by decide +kernel
theorem d_Tab_put_71 : decode c_Tab_put 71 = .ok (.dup2, 1) := by decide +kernel
theorem d_Tab_put_72 : decode c_Tab_put 72 = .ok (.iaload, 1) := by decide +kernel
theorem d_Tab_put_73 : decode c_Tab_put 73 = .ok (.iconst 1, 1) := by decide +kernel
theorem d_Tab_put_74 : decode c_Tab_put 74 = .ok (.iadd, 1) := by decide +kernel
theorem d_Tab_put_75 : decode c_Tab_put 75 = .ok (.iastore, 1) := by decide +kernel
theorem d_Tab_put_76 : decode c_Tab_put 76 = .ok (.return_, 1) := by decide +kernel
abbrev c_Tab_isAsRemembered : ByteArray := prog_4_method_3_code
def y_Tab_isAsRemembered : MethodName := ⟨"NetJoins$NetTable", "isAsRemembered", "()Z"⟩
theorem ok_Tab_isAsRemembered : vOK y_Tab_isAsRemembered c_Tab_isAsRemembered 2 (some .boolean) 0 := ⟨kw_406, kw_404, kw_405, kw_6, by decide +kernel⟩
theorem d_Tab_isAsRemembered_0 : decode c_Tab_isAsRemembered 0 = .ok (.iconst 0, 1) := by decide +kernel
theorem d_Tab_isAsRemembered_1 : decode c_Tab_isAsRemembered 1 = .ok (.istore_n 1, 1) := by decide +kernel
theorem d_Tab_isAsRemembered_2 : decode c_Tab_isAsRemembered 2 = .ok (.iload_n 1, 1) := by decide +kernel
theorem d_Tab_isAsRemembered_3 : decode c_Tab_isAsRemembered 3 = .ok (.aload_n 0, 1) := by decide +kernel
theorem d_Tab_isAsRemembered_4 : decode c_Tab_isAsRemembered 4 = .ok (.getfield 40, 3) := by decide +kernel
theorem d_Tab_isAsRemembered_7 : decode c_Tab_isAsRemembered 7 = .ok (.if_icmp .ge 26, 3) := by decide +kernel
theorem d_Tab_isAsRemembered_10 : decode c_Tab_isAsRemembered 10 = .ok (.aload_n 0, 1) := by decide +kernel
theorem d_Tab_isAsRemembered_11 : decode c_Tab_isAsRemembered 11 = .ok (.getfield 9, 3) := by decide +kernel
theorem d_Tab_isAsRemembered_14 : decode c_Tab_isAsRemembered 14 = .ok (.iload_n 1, 1) := by decide +kernel
theorem d_Tab_isAsRemembered_15 : decode c_Tab_isAsRemembered 15 = .ok (.iaload, 1) := by decide +kernel
theorem d_Tab_isAsRemembered_16 : decode c_Tab_isAsRemembered 16 = .ok (.aload_n 0, 1) := by decide +kernel
theorem d_Tab_isAsRemembered_17 : decode c_Tab_isAsRemembered 17 = .ok (.getfield 15, 3) := by decide +kernel
theorem d_Tab_isAsRemembered_20 : decode c_Tab_isAsRemembered 20 = .ok (.iload_n 1, 1) := by decide +kernel
theorem d_Tab_isAsRemembered_21 : decode c_Tab_isAsRemembered 21 = .ok (.iaload, 1) := by decide +kernel
theorem d_Tab_isAsRemembered_22 : decode c_Tab_isAsRemembered 22 = .ok (.if_icmp .eq 5, 3) := by decide +kernel
theorem d_Tab_isAsRemembered_25 : decode c_Tab_isAsRemembered 25 = .ok (.iconst 0, 1) := by decide +kernel
theorem d_Tab_isAsRemembered_26 : decode c_Tab_isAsRemembered 26 = .ok (.ireturn, 1) := by decide +kernel
theorem d_Tab_isAsRemembered_27 : decode c_Tab_isAsRemembered 27 = .ok (.iinc 1 1, 3) := by decide +kernel
theorem d_Tab_isAsRemembered_30 : decode c_Tab_isAsRemembered 30 = .ok (.goto (-28), 3) := by decide +kernel
theorem d_Tab_isAsRemembered_33 : decode c_Tab_isAsRemembered 33 = .ok (.iconst 1, 1) := by decide +kernel
theorem d_Tab_isAsRemembered_34 : decode c_Tab_isAsRemembered 34 = .ok (.ireturn, 1) := by decide +kernel
abbrev c_Tab_changedNet : ByteArray := prog_4_method_8_code
def y_Tab_changedNet : MethodName := ⟨"NetJoins$NetTable", "changedNet", "(I)I"⟩
theorem ok_Tab_changedNet : vOK y_Tab_changedNet c_Tab_changedNet 4 (some .int) 1 := ⟨kw_414, kw_412, kw_413, kw_6, by decide +kernel⟩
theorem d_Tab_changedNet_0 : decode c_Tab_changedNet 0 = .ok (.iconst 0, 1) := by decide +kernel
theorem d_Tab_changedNet_1 : decode c_Tab_changedNet 1 = .ok (.istore_n 2, 1) := by decide +kernel
theorem d_Tab_changedNet_2 : decode c_Tab_changedNet 2 = .ok (.iconst 0, 1) := by decide +kernel
theorem d_Tab_changedNet_3 : decode c_Tab_changedNet 3 = .ok (.istore_n 3, 1) := by decide +kernel
theorem d_Tab_changedNet_4 : decode c_Tab_changedNet 4 = .ok (.iload_n 3, 1) := by decide +kernel
theorem d_Tab_changedNet_5 : decode c_Tab_changedNet 5 = .ok (.aload_n 0, 1) := by decide +kernel
theorem d_Tab_changedNet_6 : decode c_Tab_changedNet 6 = .ok (.getfield 44, 3) := by decide +kernel
theorem d_Tab_changedNet_9 : decode c_Tab_changedNet 9 = .ok (.if_icmp .ge 28, 3) := by decide +kernel
theorem d_Tab_changedNet_12 : decode c_Tab_changedNet 12 = .ok (.aload_n 0, 1) := by decide +kernel
theorem d_Tab_changedNet_13 : decode c_Tab_changedNet 13 = .ok (.getfield 24, 3) := by decide +kernel
theorem d_Tab_changedNet_16 : decode c_Tab_changedNet 16 = .ok (.iload_n 3, 1) := by decide +kernel
theorem d_Tab_changedNet_17 : decode c_Tab_changedNet 17 = .ok (.baload, 1) := by decide +kernel
theorem d_Tab_changedNet_18 : decode c_Tab_changedNet 18 = .ok (.ifCond .eq 13, 3) := by decide +kernel
theorem d_Tab_changedNet_21 : decode c_Tab_changedNet 21 = .ok (.iload_n 2, 1) := by decide +kernel
theorem d_Tab_changedNet_22 : decode c_Tab_changedNet 22 = .ok (.iload_n 1, 1) := by decide +kernel
theorem d_Tab_changedNet_23 : decode c_Tab_changedNet 23 = .ok (.if_icmp .ne 5, 3) := by decide +kernel
theorem d_Tab_changedNet_26 : decode c_Tab_changedNet 26 = .ok (.iload_n 3, 1) := by decide +kernel
theorem d_Tab_changedNet_27 : decode c_Tab_changedNet 27 = .ok (.ireturn, 1) := by decide +kernel
theorem d_Tab_changedNet_28 : decode c_Tab_changedNet 28 = .ok (.iinc 2 1, 3) := by decide +kernel
theorem d_Tab_changedNet_31 : decode c_Tab_changedNet 31 = .ok (.iinc 3 1, 3) := by decide +kernel
theorem d_Tab_changedNet_34 : decode c_Tab_changedNet 34 = .ok (.goto (-30), 3) := by decide +kernel
theorem d_Tab_changedNet_37 : decode c_Tab_changedNet 37 = .ok (.iconst (-1), 1) := by decide +kernel
theorem d_Tab_changedNet_38 : decode c_Tab_changedNet 38 = .ok (.ireturn, 1) := by decide +kernel
abbrev c_Tab_markChanges : ByteArray := prog_4_method_6_code
def y_Tab_markChanges : MethodName := ⟨"NetJoins$NetTable", "markChanges", "()V"⟩
theorem ok_Tab_markChanges : vOK y_Tab_markChanges c_Tab_markChanges 3 none 0 := ⟨kw_613, kw_611, kw_612, kw_6, by decide +kernel⟩
theorem d_Tab_markChanges_0 : decode c_Tab_markChanges 0 = .ok (.iconst 0, 1) := by decide +kernel
theorem d_Tab_markChanges_1 : decode c_Tab_markChanges 1 = .ok (.istore_n 1, 1) := by decide +kernel
theorem d_Tab_markChanges_2 : decode c_Tab_markChanges 2 = .ok (.iload_n 1, 1) := by decide +kernel
theorem d_Tab_markChanges_3 : decode c_Tab_markChanges 3 = .ok (.aload_n 0, 1) := by decide +kernel
theorem d_Tab_markChanges_4 : decode c_Tab_markChanges 4 = .ok (.getfield 40, 3) := by decide +kernel
theorem d_Tab_markChanges_7 : decode c_Tab_markChanges 7 = .ok (.if_icmp .ge 16, 3) := by decide +kernel
theorem d_Tab_markChanges_10 : decode c_Tab_markChanges 10 = .ok (.aload_n 0, 1) := by decide +kernel
theorem d_Tab_markChanges_11 : decode c_Tab_markChanges 11 = .ok (.getfield 24, 3) := by decide +kernel
theorem d_Tab_markChanges_14 : decode c_Tab_markChanges 14 = .ok (.iload_n 1, 1) := by decide +kernel
theorem d_Tab_markChanges_15 : decode c_Tab_markChanges 15 = .ok (.iconst 0, 1) := by decide +kernel
theorem d_Tab_markChanges_16 : decode c_Tab_markChanges 16 = .ok (.bastore, 1) := by decide +kernel
theorem d_Tab_markChanges_17 : decode c_Tab_markChanges 17 = .ok (.iinc 1 1, 3) := by decide +kernel
theorem d_Tab_markChanges_20 : decode c_Tab_markChanges 20 = .ok (.goto (-18), 3) := by decide +kernel
theorem d_Tab_markChanges_23 : decode c_Tab_markChanges 23 = .ok (.iconst 0, 1) := by decide +kernel
theorem d_Tab_markChanges_24 : decode c_Tab_markChanges 24 = .ok (.istore_n 1, 1) := by decide +kernel
theorem d_Tab_markChanges_25 : decode c_Tab_markChanges 25 = .ok (.iload_n 1, 1) := by decide +kernel
theorem d_Tab_markChanges_26 : decode c_Tab_markChanges 26 = .ok (.aload_n 0, 1) := by decide +kernel
theorem d_Tab_markChanges_27 : decode c_Tab_markChanges 27 = .ok (.getfield 40, 3) := by decide +kernel
theorem d_Tab_markChanges_30 : decode c_Tab_markChanges 30 = .ok (.if_icmp .ge 55, 3) := by decide +kernel
theorem d_Tab_markChanges_33 : decode c_Tab_markChanges 33 = .ok (.aload_n 0, 1) := by decide +kernel
theorem d_Tab_markChanges_34 : decode c_Tab_markChanges 34 = .ok (.getfield 15, 3) := by decide +kernel
theorem d_Tab_markChanges_37 : decode c_Tab_markChanges 37 = .ok (.iload_n 1, 1) := by decide +kernel
theorem d_Tab_markChanges_38 : decode c_Tab_markChanges 38 = .ok (.iaload, 1) := by decide +kernel
theorem d_Tab_markChanges_39 : decode c_Tab_markChanges 39 = .ok (.istore_n 2, 1) := by decide +kernel
theorem d_Tab_markChanges_40 : decode c_Tab_markChanges 40 = .ok (.aload_n 0, 1) := by decide +kernel
theorem d_Tab_markChanges_41 : decode c_Tab_markChanges 41 = .ok (.getfield 9, 3) := by decide +kernel
theorem d_Tab_markChanges_44 : decode c_Tab_markChanges 44 = .ok (.iload_n 1, 1) := by decide +kernel
theorem d_Tab_markChanges_45 : decode c_Tab_markChanges 45 = .ok (.iaload, 1) := by decide +kernel
theorem d_Tab_markChanges_46 : decode c_Tab_markChanges 46 = .ok (.iload_n 2, 1) := by decide +kernel
theorem d_Tab_markChanges_47 : decode c_Tab_markChanges 47 = .ok (.if_icmp .eq 32, 3) := by decide +kernel
theorem d_Tab_markChanges_50 : decode c_Tab_markChanges 50 = .ok (.aload_n 0, 1) := by decide +kernel
theorem d_Tab_markChanges_51 : decode c_Tab_markChanges 51 = .ok (.getfield 24, 3) := by decide +kernel
theorem d_Tab_markChanges_54 : decode c_Tab_markChanges 54 = .ok (.aload_n 0, 1) := by decide +kernel
theorem d_Tab_markChanges_55 : decode c_Tab_markChanges 55 = .ok (.getfield 18, 3) := by decide +kernel
theorem d_Tab_markChanges_58 : decode c_Tab_markChanges 58 = .ok (.iload_n 1, 1) := by decide +kernel
theorem d_Tab_markChanges_59 : decode c_Tab_markChanges 59 = .ok (.iaload, 1) := by decide +kernel
theorem d_Tab_markChanges_60 : decode c_Tab_markChanges 60 = .ok (.iconst 1, 1) := by decide +kernel
theorem d_Tab_markChanges_61 : decode c_Tab_markChanges 61 = .ok (.bastore, 1) := by decide +kernel
theorem d_Tab_markChanges_62 : decode c_Tab_markChanges 62 = .ok (.iload_n 2, 1) := by decide +kernel
theorem d_Tab_markChanges_63 : decode c_Tab_markChanges 63 = .ok (.iconst (-1), 1) := by decide +kernel
theorem d_Tab_markChanges_64 : decode c_Tab_markChanges 64 = .ok (.if_icmp .eq 15, 3) := by decide +kernel
theorem d_Tab_markChanges_67 : decode c_Tab_markChanges 67 = .ok (.aload_n 0, 1) := by decide +kernel
theorem d_Tab_markChanges_68 : decode c_Tab_markChanges 68 = .ok (.getfield 24, 3) := by decide +kernel
theorem d_Tab_markChanges_71 : decode c_Tab_markChanges 71 = .ok (.aload_n 0, 1) := by decide +kernel
theorem d_Tab_markChanges_72 : decode c_Tab_markChanges 72 = .ok (.getfield 18, 3) := by decide +kernel
theorem d_Tab_markChanges_75 : decode c_Tab_markChanges 75 = .ok (.iload_n 2, 1) := by decide +kernel
theorem d_Tab_markChanges_76 : decode c_Tab_markChanges 76 = .ok (.iaload, 1) := by decide +kernel
theorem d_Tab_markChanges_77 : decode c_Tab_markChanges 77 = .ok (.iconst 1, 1) := by decide +kernel
theorem d_Tab_markChanges_78 : decode c_Tab_markChanges 78 = .ok (.bastore, 1) := by decide +kernel
theorem d_Tab_markChanges_79 : decode c_Tab_markChanges 79 = .ok (.iinc 1 1, 3) := by decide +kernel
theorem d_Tab_markChanges_82 : decode c_Tab_markChanges 82 = .ok (.goto (-57), 3) := by decide +kernel
theorem d_Tab_markChanges_85 : decode c_Tab_markChanges 85 = .ok (.return_, 1) := by decide +kernel
abbrev c_Tab_leastPin : ByteArray := prog_4_method_9_code
def y_Tab_leastPin : MethodName := ⟨"NetJoins$NetTable", "leastPin", "(I)I"⟩
theorem ok_Tab_leastPin : vOK y_Tab_leastPin c_Tab_leastPin 3 (some .int) 1 := ⟨kw_1109, kw_1107, kw_1108, kw_6, by decide +kernel⟩
theorem d_Tab_leastPin_0 : decode c_Tab_leastPin 0 = .ok (.iconst 0, 1) := by decide +kernel
theorem d_Tab_leastPin_1 : decode c_Tab_leastPin 1 = .ok (.istore_n 2, 1) := by decide +kernel
theorem d_Tab_leastPin_2 : decode c_Tab_leastPin 2 = .ok (.iload_n 2, 1) := by decide +kernel
theorem d_Tab_leastPin_3 : decode c_Tab_leastPin 3 = .ok (.aload_n 0, 1) := by decide +kernel
theorem d_Tab_leastPin_4 : decode c_Tab_leastPin 4 = .ok (.getfield 40, 3) := by decide +kernel
theorem d_Tab_leastPin_7 : decode c_Tab_leastPin 7 = .ok (.if_icmp .ge 34, 3) := by decide +kernel
theorem d_Tab_leastPin_10 : decode c_Tab_leastPin 10 = .ok (.aload_n 0, 1) := by decide +kernel
theorem d_Tab_leastPin_11 : decode c_Tab_leastPin 11 = .ok (.getfield 9, 3) := by decide +kernel
theorem d_Tab_leastPin_14 : decode c_Tab_leastPin 14 = .ok (.iload_n 2, 1) := by decide +kernel
theorem d_Tab_leastPin_15 : decode c_Tab_leastPin 15 = .ok (.iaload, 1) := by decide +kernel
theorem d_Tab_leastPin_16 : decode c_Tab_leastPin 16 = .ok (.iload_n 2, 1) := by decide +kernel
theorem d_Tab_leastPin_17 : decode c_Tab_leastPin 17 = .ok (.if_icmp .ne 18, 3) := by decide +kernel
theorem d_Tab_leastPin_20 : decode c_Tab_leastPin 20 = .ok (.aload_n 0, 1) := by decide +kernel
theorem d_Tab_leastPin_21 : decode c_Tab_leastPin 21 = .ok (.getfield 18, 3) := by decide +kernel
theorem d_Tab_leastPin_24 : decode c_Tab_leastPin 24 = .ok (.iload_n 2, 1) := by decide +kernel
theorem d_Tab_leastPin_25 : decode c_Tab_leastPin 25 = .ok (.iaload, 1) := by decide +kernel
theorem d_Tab_leastPin_26 : decode c_Tab_leastPin 26 = .ok (.iload_n 1, 1) := by decide +kernel
theorem d_Tab_leastPin_27 : decode c_Tab_leastPin 27 = .ok (.if_icmp .ne 8, 3) := by decide +kernel
theorem d_Tab_leastPin_30 : decode c_Tab_leastPin 30 = .ok (.iload_n 2, 1) := by decide +kernel
theorem d_Tab_leastPin_31 : decode c_Tab_leastPin 31 = .ok (.bipush 16, 2) := by decide +kernel
theorem d_Tab_leastPin_33 : decode c_Tab_leastPin 33 = .ok (.idiv, 1) := by decide +kernel
theorem d_Tab_leastPin_34 : decode c_Tab_leastPin 34 = .ok (.ireturn, 1) := by decide +kernel
theorem d_Tab_leastPin_35 : decode c_Tab_leastPin 35 = .ok (.iinc 2 1, 3) := by decide +kernel
theorem d_Tab_leastPin_38 : decode c_Tab_leastPin 38 = .ok (.goto (-36), 3) := by decide +kernel
theorem d_Tab_leastPin_41 : decode c_Tab_leastPin 41 = .ok (.iconst (-1), 1) := by decide +kernel
theorem d_Tab_leastPin_42 : decode c_Tab_leastPin 42 = .ok (.ireturn, 1) := by decide +kernel
abbrev c_Tab_changedCount : ByteArray := prog_4_method_7_code
def y_Tab_changedCount : MethodName := ⟨"NetJoins$NetTable", "changedCount", "()I"⟩
theorem ok_Tab_changedCount : vOK y_Tab_changedCount c_Tab_changedCount 3 (some .int) 0 := ⟨kw_1121, kw_1119, kw_1120, kw_6, by decide +kernel⟩
theorem d_Tab_changedCount_0 : decode c_Tab_changedCount 0 = .ok (.iconst 0, 1) := by decide +kernel
theorem d_Tab_changedCount_1 : decode c_Tab_changedCount 1 = .ok (.istore_n 1, 1) := by decide +kernel
theorem d_Tab_changedCount_2 : decode c_Tab_changedCount 2 = .ok (.iconst 0, 1) := by decide +kernel
theorem d_Tab_changedCount_3 : decode c_Tab_changedCount 3 = .ok (.istore_n 2, 1) := by decide +kernel
theorem d_Tab_changedCount_4 : decode c_Tab_changedCount 4 = .ok (.iload_n 2, 1) := by decide +kernel
theorem d_Tab_changedCount_5 : decode c_Tab_changedCount 5 = .ok (.aload_n 0, 1) := by decide +kernel
theorem d_Tab_changedCount_6 : decode c_Tab_changedCount 6 = .ok (.getfield 44, 3) := by decide +kernel
theorem d_Tab_changedCount_9 : decode c_Tab_changedCount 9 = .ok (.if_icmp .ge 21, 3) := by decide +kernel
theorem d_Tab_changedCount_12 : decode c_Tab_changedCount 12 = .ok (.aload_n 0, 1) := by decide +kernel
theorem d_Tab_changedCount_13 : decode c_Tab_changedCount 13 = .ok (.getfield 24, 3) := by decide +kernel
theorem d_Tab_changedCount_16 : decode c_Tab_changedCount 16 = .ok (.iload_n 2, 1) := by decide +kernel
theorem d_Tab_changedCount_17 : decode c_Tab_changedCount 17 = .ok (.baload, 1) := by decide +kernel
theorem d_Tab_changedCount_18 : decode c_Tab_changedCount 18 = .ok (.ifCond .eq 6, 3) := by decide +kernel
theorem d_Tab_changedCount_21 : decode c_Tab_changedCount 21 = .ok (.iinc 1 1, 3) := by decide +kernel
theorem d_Tab_changedCount_24 : decode c_Tab_changedCount 24 = .ok (.iinc 2 1, 3) := by decide +kernel
theorem d_Tab_changedCount_27 : decode c_Tab_changedCount 27 = .ok (.goto (-23), 3) := by decide +kernel
theorem d_Tab_changedCount_30 : decode c_Tab_changedCount 30 = .ok (.iload_n 1, 1) := by decide +kernel
theorem d_Tab_changedCount_31 : decode c_Tab_changedCount 31 = .ok (.ireturn, 1) := by decide +kernel
