abbrev c_Mod_nets : ByteArray := prog_10_method_32_code
def y_Mod_nets : MethodName := ⟨"NetJoinsModel", "nets", "()I"⟩
theorem ok_Mod_nets : vOK y_Mod_nets c_Mod_nets 1 (some .int) 0 := ⟨kw_1355, kw_1353, kw_1354, kw_8, by decide +kernel⟩
theorem d_Mod_nets_0 : decode c_Mod_nets 0 = .ok (.aload_n 0, 1) := by decide +kernel
theorem d_Mod_nets_1 : decode c_Mod_nets 1 = .ok (.iconst 0, 1) := by decide +kernel
theorem d_Mod_nets_2 : decode c_Mod_nets 2 = .ok (.putfield 78, 3) := by decide +kernel
theorem d_Mod_nets_5 : decode c_Mod_nets 5 = .ok (.aload_n 0, 1) := by decide +kernel
theorem d_Mod_nets_6 : decode c_Mod_nets 6 = .ok (.getfield 155, 3) := by decide +kernel
theorem d_Mod_nets_9 : decode c_Mod_nets 9 = .ok (.ireturn, 1) := by decide +kernel
abbrev c_Mod_copySheet : ByteArray := prog_10_method_20_code
def y_Mod_copySheet : MethodName := ⟨"NetJoinsModel", "copySheet", "(II)I"⟩
theorem ok_Mod_copySheet : vOK y_Mod_copySheet c_Mod_copySheet 5 (some .int) 2 := ⟨kw_1363, kw_1362, ks_64, kw_8, by decide +kernel⟩
theorem d_Mod_copySheet_0 : decode c_Mod_copySheet 0 = .ok (.iload_n 2, 1) := by decide +kernel
theorem d_Mod_copySheet_1 : decode c_Mod_copySheet 1 = .ok (.istore_n 3, 1) := by decide +kernel
theorem d_Mod_copySheet_2 : decode c_Mod_copySheet 2 = .ok (.iload_n 1, 1) := by decide +kernel
theorem d_Mod_copySheet_3 : decode c_Mod_copySheet 3 = .ok (.istore 4, 2) := by decide +kernel
theorem d_Mod_copySheet_5 : decode c_Mod_copySheet 5 = .ok (.iload 4, 2) := by decide +kernel
theorem d_Mod_copySheet_7 : decode c_Mod_copySheet 7 = .ok (.aload_n 0, 1) := by decide +kernel
theorem d_Mod_copySheet_8 : decode c_Mod_copySheet 8 = .ok (.getfield 82, 3) := by decide +kernel
theorem d_Mod_copySheet_11 : decode c_Mod_copySheet 11 = .ok (.if_icmp .ge 37, 3) := by decide +kernel
theorem d_Mod_copySheet_14 : decode c_Mod_copySheet 14 = .ok (.iload_n 2, 1) := by decide +kernel
theorem d_Mod_copySheet_15 : decode c_Mod_copySheet 15 = .ok (.ifCond .lt 33, 3) := by decide +kernel
theorem d_Mod_copySheet_18 : decode c_Mod_copySheet 18 = .ok (.aload_n 0, 1) := by decide +kernel
theorem d_Mod_copySheet_19 : decode c_Mod_copySheet 19 = .ok (.getfield 13, 3) := by decide +kernel
theorem d_Mod_copySheet_22 : decode c_Mod_copySheet 22 = .ok (.iload 4, 2) := by decide +kernel
theorem d_Mod_copySheet_24 : decode c_Mod_copySheet 24 = .ok (.iaload, 1) := by decide +kernel
theorem d_Mod_copySheet_25 : decode c_Mod_copySheet 25 = .ok (.iload_n 1, 1) := by decide +kernel
theorem d_Mod_copySheet_26 : decode c_Mod_copySheet 26 = .ok (.if_icmp .eq 6, 3) := by decide +kernel
theorem d_Mod_copySheet_29 : decode c_Mod_copySheet 29 = .ok (.goto 13, 3) := by decide +kernel
theorem d_Mod_copySheet_32 : decode c_Mod_copySheet 32 = .ok (.iload_n 3, 1) := by decide +kernel
theorem d_Mod_copySheet_33 : decode c_Mod_copySheet 33 = .ok (.ifCond .ne 6, 3) := by decide +kernel
theorem d_Mod_copySheet_36 : decode c_Mod_copySheet 36 = .ok (.iload 4, 2) := by decide +kernel
theorem d_Mod_copySheet_38 : decode c_Mod_copySheet 38 = .ok (.ireturn, 1) := by decide +kernel
theorem d_Mod_copySheet_39 : decode c_Mod_copySheet 39 = .ok (.iinc 3 (-1), 3) := by decide +kernel
theorem d_Mod_copySheet_42 : decode c_Mod_copySheet 42 = .ok (.iinc 4 1, 3) := by decide +kernel
theorem d_Mod_copySheet_45 : decode c_Mod_copySheet 45 = .ok (.goto (-40), 3) := by decide +kernel
theorem d_Mod_copySheet_48 : decode c_Mod_copySheet 48 = .ok (.iconst (-1), 1) := by decide +kernel
theorem d_Mod_copySheet_49 : decode c_Mod_copySheet 49 = .ok (.ireturn, 1) := by decide +kernel
abbrev c_Mod_netOf : ByteArray := prog_10_method_33_code
def y_Mod_netOf : MethodName := ⟨"NetJoinsModel", "netOf", "(II)I"⟩
theorem ok_Mod_netOf : vOK y_Mod_netOf c_Mod_netOf 4 (some .int) 2 := ⟨kw_1359, kw_1357, kw_1358, kw_8, by decide +kernel⟩
theorem d_Mod_netOf_0 : decode c_Mod_netOf 0 = .ok (.iload_n 1, 1) := by decide +kernel
theorem d_Mod_netOf_1 : decode c_Mod_netOf 1 = .ok (.ifCond .lt 11, 3) := by decide +kernel
theorem d_Mod_netOf_4 : decode c_Mod_netOf 4 = .ok (.iload_n 1, 1) := by decide +kernel
theorem d_Mod_netOf_5 : decode c_Mod_netOf 5 = .ok (.aload_n 0, 1) := by decide +kernel
theorem d_Mod_netOf_6 : decode c_Mod_netOf 6 = .ok (.getfield 121, 3) := by decide +kernel
theorem d_Mod_netOf_9 : decode c_Mod_netOf 9 = .ok (.if_icmp .lt 7, 3) := by decide +kernel
theorem d_Mod_netOf_12 : decode c_Mod_netOf 12 = .ok (.iconst (-1), 1) := by decide +kernel
theorem d_Mod_netOf_13 : decode c_Mod_netOf 13 = .ok (.goto 14, 3) := by decide +kernel
theorem d_Mod_netOf_16 : decode c_Mod_netOf 16 = .ok (.aload_n 0, 1) := by decide +kernel
theorem d_Mod_netOf_17 : decode c_Mod_netOf 17 = .ok (.aload_n 0, 1) := by decide +kernel
theorem d_Mod_netOf_18 : decode c_Mod_netOf 18 = .ok (.getfield 42, 3) := by decide +kernel
theorem d_Mod_netOf_21 : decode c_Mod_netOf 21 = .ok (.iload_n 1, 1) := by decide +kernel
theorem d_Mod_netOf_22 : decode c_Mod_netOf 22 = .ok (.iaload, 1) := by decide +kernel
theorem d_Mod_netOf_23 : decode c_Mod_netOf 23 = .ok (.iload_n 2, 1) := by decide +kernel
theorem d_Mod_netOf_24 : decode c_Mod_netOf 24 = .ok (.invokevirtual 188, 3) := by decide +kernel
theorem d_Mod_netOf_27 : decode c_Mod_netOf 27 = .ok (.istore_n 3, 1) := by decide +kernel
theorem d_Mod_netOf_28 : decode c_Mod_netOf 28 = .ok (.aload_n 0, 1) := by decide +kernel
theorem d_Mod_netOf_29 : decode c_Mod_netOf 29 = .ok (.iload_n 3, 1) := by decide +kernel
theorem d_Mod_netOf_30 : decode c_Mod_netOf 30 = .ok (.iconst (-1), 1) := by decide +kernel
theorem d_Mod_netOf_31 : decode c_Mod_netOf 31 = .ok (.if_icmp .ne 7, 3) := by decide +kernel
theorem d_Mod_netOf_34 : decode c_Mod_netOf 34 = .ok (.iconst 1, 1) := by decide +kernel
theorem d_Mod_netOf_35 : decode c_Mod_netOf 35 = .ok (.goto 4, 3) := by decide +kernel
theorem d_Mod_netOf_38 : decode c_Mod_netOf 38 = .ok (.iconst 0, 1) := by decide +kernel
theorem d_Mod_netOf_39 : decode c_Mod_netOf 39 = .ok (.putfield 78, 3) := by decide +kernel
theorem d_Mod_netOf_42 : decode c_Mod_netOf 42 = .ok (.aload_n 0, 1) := by decide +kernel
theorem d_Mod_netOf_43 : decode c_Mod_netOf 43 = .ok (.getfield 78, 3) := by decide +kernel
theorem d_Mod_netOf_46 : decode c_Mod_netOf 46 = .ok (.ifCond .ne 17, 3) := by decide +kernel
theorem d_Mod_netOf_49 : decode c_Mod_netOf 49 = .ok (.aload_n 0, 1) := by decide +kernel
theorem d_Mod_netOf_50 : decode c_Mod_netOf 50 = .ok (.getfield 69, 3) := by decide +kernel
theorem d_Mod_netOf_53 : decode c_Mod_netOf 53 = .ok (.bipush 16, 2) := by decide +kernel
theorem d_Mod_netOf_55 : decode c_Mod_netOf 55 = .ok (.iload_n 1, 1) := by decide +kernel
theorem d_Mod_netOf_56 : decode c_Mod_netOf 56 = .ok (.imul, 1) := by decide +kernel
theorem d_Mod_netOf_57 : decode c_Mod_netOf 57 = .ok (.iload_n 3, 1) := by decide +kernel
theorem d_Mod_netOf_58 : decode c_Mod_netOf 58 = .ok (.iadd, 1) := by decide +kernel
theorem d_Mod_netOf_59 : decode c_Mod_netOf 59 = .ok (.iaload, 1) := by decide +kernel
theorem d_Mod_netOf_60 : decode c_Mod_netOf 60 = .ok (.goto 4, 3) := by decide +kernel
theorem d_Mod_netOf_63 : decode c_Mod_netOf 63 = .ok (.iconst 0, 1) := by decide +kernel
theorem d_Mod_netOf_64 : decode c_Mod_netOf 64 = .ok (.ireturn, 1) := by decide +kernel
abbrev c_Mod_rank : ByteArray := prog_10_method_34_code
def y_Mod_rank : MethodName := ⟨"NetJoinsModel", "rank", "(II)Z"⟩
theorem ok_Mod_rank : vOK y_Mod_rank c_Mod_rank 3 (some .boolean) 2 := ⟨kw_1367, kw_1365, kw_1366, kw_8, by decide +kernel⟩
theorem d_Mod_rank_0 : decode c_Mod_rank 0 = .ok (.aload_n 0, 1) := by decide +kernel
theorem d_Mod_rank_1 : decode c_Mod_rank 1 = .ok (.iload_n 1, 1) := by decide +kernel
theorem d_Mod_rank_2 : decode c_Mod_rank 2 = .ok (.invokestatic 185, 3) := by decide +kernel
theorem d_Mod_rank_5 : decode c_Mod_rank 5 = .ok (.ifCond .eq 19, 3) := by decide +kernel
theorem d_Mod_rank_8 : decode c_Mod_rank 8 = .ok (.iload_n 2, 1) := by decide +kernel
theorem d_Mod_rank_9 : decode c_Mod_rank 9 = .ok (.bipush (-9), 2) := by decide +kernel
theorem d_Mod_rank_11 : decode c_Mod_rank 11 = .ok (.if_icmp .lt 13, 3) := by decide +kernel
theorem d_Mod_rank_14 : decode c_Mod_rank 14 = .ok (.iload_n 2, 1) := by decide +kernel
theorem d_Mod_rank_15 : decode c_Mod_rank 15 = .ok (.bipush 9, 2) := by decide +kernel
theorem d_Mod_rank_17 : decode c_Mod_rank 17 = .ok (.if_icmp .gt 7, 3) := by decide +kernel
theorem d_Mod_rank_20 : decode c_Mod_rank 20 = .ok (.iconst 0, 1) := by decide +kernel
theorem d_Mod_rank_21 : decode c_Mod_rank 21 = .ok (.goto 4, 3) := by decide +kernel
theorem d_Mod_rank_24 : decode c_Mod_rank 24 = .ok (.iconst 1, 1) := by decide +kernel
theorem d_Mod_rank_25 : decode c_Mod_rank 25 = .ok (.putfield 78, 3) := by decide +kernel
theorem d_Mod_rank_28 : decode c_Mod_rank 28 = .ok (.aload_n 0, 1) := by decide +kernel
theorem d_Mod_rank_29 : decode c_Mod_rank 29 = .ok (.getfield 78, 3) := by decide +kernel
theorem d_Mod_rank_32 : decode c_Mod_rank 32 = .ok (.ifCond .ne 13, 3) := by decide +kernel
theorem d_Mod_rank_35 : decode c_Mod_rank 35 = .ok (.aload_n 0, 1) := by decide +kernel
theorem d_Mod_rank_36 : decode c_Mod_rank 36 = .ok (.getfield 60, 3) := by decide +kernel
theorem d_Mod_rank_39 : decode c_Mod_rank 39 = .ok (.iload_n 1, 1) := by decide +kernel
theorem d_Mod_rank_40 : decode c_Mod_rank 40 = .ok (.iaload, 1) := by decide +kernel
theorem d_Mod_rank_41 : decode c_Mod_rank 41 = .ok (.iload_n 2, 1) := by decide +kernel
theorem d_Mod_rank_42 : decode c_Mod_rank 42 = .ok (.if_icmp .ne 5, 3) := by decide +kernel
theorem d_Mod_rank_45 : decode c_Mod_rank 45 = .ok (.iconst 0, 1) := by decide +kernel
theorem d_Mod_rank_46 : decode c_Mod_rank 46 = .ok (.ireturn, 1) := by decide +kernel
theorem d_Mod_rank_47 : decode c_Mod_rank 47 = .ok (.aload_n 0, 1) := by decide +kernel
theorem d_Mod_rank_48 : decode c_Mod_rank 48 = .ok (.getfield 60, 3) := by decide +kernel
theorem d_Mod_rank_51 : decode c_Mod_rank 51 = .ok (.iload_n 1, 1) := by decide +kernel
theorem d_Mod_rank_52 : decode c_Mod_rank 52 = .ok (.iload_n 2, 1) := by decide +kernel
theorem d_Mod_rank_53 : decode c_Mod_rank 53 = .ok (.iastore, 1) := by decide +kernel
theorem d_Mod_rank_54 : decode c_Mod_rank 54 = .ok (.iconst 1, 1) := by decide +kernel
theorem d_Mod_rank_55 : decode c_Mod_rank 55 = .ok (.ireturn, 1) := by decide +kernel
abbrev c_Mod_hasName : ByteArray := prog_10_method_35_code
def y_Mod_hasName : MethodName := ⟨"NetJoinsModel", "hasName", "(II)Z"⟩
theorem ok_Mod_hasName : vOK y_Mod_hasName c_Mod_hasName 5 (some .boolean) 2 := ⟨kw_1379, kw_1378, ks_66, kw_8, by decide +kernel⟩
theorem d_Mod_hasName_0 : decode c_Mod_hasName 0 = .ok (.iconst 0, 1) := by decide +kernel
theorem d_Mod_hasName_1 : decode c_Mod_hasName 1 = .ok (.istore_n 3, 1) := by decide +kernel
theorem d_Mod_hasName_2 : decode c_Mod_hasName 2 = .ok (.iload_n 3, 1) := by decide +kernel
theorem d_Mod_hasName_3 : decode c_Mod_hasName 3 = .ok (.aload_n 0, 1) := by decide +kernel
theorem d_Mod_hasName_4 : decode c_Mod_hasName 4 = .ok (.getfield 118, 3) := by decide +kernel
theorem d_Mod_hasName_7 : decode c_Mod_hasName 7 = .ok (.if_icmp .ge 82, 3) := by decide +kernel
theorem d_Mod_hasName_10 : decode c_Mod_hasName 10 = .ok (.aload_n 0, 1) := by decide +kernel
theorem d_Mod_hasName_11 : decode c_Mod_hasName 11 = .ok (.getfield 36, 3) := by decide +kernel
theorem d_Mod_hasName_14 : decode c_Mod_hasName 14 = .ok (.iload_n 3, 1) := by decide +kernel
theorem d_Mod_hasName_15 : decode c_Mod_hasName 15 = .ok (.iaload, 1) := by decide +kernel
theorem d_Mod_hasName_16 : decode c_Mod_hasName 16 = .ok (.iload_n 2, 1) := by decide +kernel
theorem d_Mod_hasName_17 : decode c_Mod_hasName 17 = .ok (.if_icmp .eq 6, 3) := by decide +kernel
theorem d_Mod_hasName_20 : decode c_Mod_hasName 20 = .ok (.goto 63, 3) := by decide +kernel
theorem d_Mod_hasName_23 : decode c_Mod_hasName 23 = .ok (.iconst 0, 1) := by decide +kernel
theorem d_Mod_hasName_24 : decode c_Mod_hasName 24 = .ok (.istore 4, 2) := by decide +kernel
theorem d_Mod_hasName_26 : decode c_Mod_hasName 26 = .ok (.iload 4, 2) := by decide +kernel
theorem d_Mod_hasName_28 : decode c_Mod_hasName 28 = .ok (.aload_n 0, 1) := by decide +kernel
theorem d_Mod_hasName_29 : decode c_Mod_hasName 29 = .ok (.getfield 82, 3) := by decide +kernel
theorem d_Mod_hasName_32 : decode c_Mod_hasName 32 = .ok (.if_icmp .ge 51, 3) := by decide +kernel
theorem d_Mod_hasName_35 : decode c_Mod_hasName 35 = .ok (.aload_n 0, 1) := by decide +kernel
theorem d_Mod_hasName_36 : decode c_Mod_hasName 36 = .ok (.getfield 13, 3) := by decide +kernel
theorem d_Mod_hasName_39 : decode c_Mod_hasName 39 = .ok (.iload 4, 2) := by decide +kernel
theorem d_Mod_hasName_41 : decode c_Mod_hasName 41 = .ok (.iaload, 1) := by decide +kernel
theorem d_Mod_hasName_42 : decode c_Mod_hasName 42 = .ok (.aload_n 0, 1) := by decide +kernel
theorem d_Mod_hasName_43 : decode c_Mod_hasName 43 = .ok (.getfield 33, 3) := by decide +kernel
theorem d_Mod_hasName_46 : decode c_Mod_hasName 46 = .ok (.iload_n 3, 1) := by decide +kernel
theorem d_Mod_hasName_47 : decode c_Mod_hasName 47 = .ok (.iaload, 1) := by decide +kernel
theorem d_Mod_hasName_48 : decode c_Mod_hasName 48 = .ok (.if_icmp .ne 29, 3) := by decide +kernel
theorem d_Mod_hasName_51 : decode c_Mod_hasName 51 = .ok (.aload_n 0, 1) := by decide +kernel
theorem d_Mod_hasName_52 : decode c_Mod_hasName 52 = .ok (.getfield 66, 3) := by decide +kernel
theorem d_Mod_hasName_55 : decode c_Mod_hasName 55 = .ok (.aload_n 0, 1) := by decide +kernel
theorem d_Mod_hasName_56 : decode c_Mod_hasName 56 = .ok (.sipush 1600, 3) := by decide +kernel
theorem d_Mod_hasName_59 : decode c_Mod_hasName 59 = .ok (.bipush 16, 2) := by decide +kernel
theorem d_Mod_hasName_61 : decode c_Mod_hasName 61 = .ok (.iload_n 3, 1) := by decide +kernel
theorem d_Mod_hasName_62 : decode c_Mod_hasName 62 = .ok (.imul, 1) := by decide +kernel
theorem d_Mod_hasName_63 : decode c_Mod_hasName 63 = .ok (.iadd, 1) := by decide +kernel
theorem d_Mod_hasName_64 : decode c_Mod_hasName 64 = .ok (.iload 4, 2) := by decide +kernel
theorem d_Mod_hasName_66 : decode c_Mod_hasName 66 = .ok (.iadd, 1) := by decide +kernel
theorem d_Mod_hasName_67 : decode c_Mod_hasName 67 = .ok (.invokevirtual 93, 3) := by decide +kernel
theorem d_Mod_hasName_70 : decode c_Mod_hasName 70 = .ok (.iaload, 1) := by decide +kernel
theorem d_Mod_hasName_71 : decode c_Mod_hasName 71 = .ok (.iload_n 1, 1) := by decide +kernel
theorem d_Mod_hasName_72 : decode c_Mod_hasName 72 = .ok (.if_icmp .ne 5, 3) := by decide +kernel
theorem d_Mod_hasName_75 : decode c_Mod_hasName 75 = .ok (.iconst 1, 1) := by decide +kernel
theorem d_Mod_hasName_76 : decode c_Mod_hasName 76 = .ok (.ireturn, 1) := by decide +kernel
theorem d_Mod_hasName_77 : decode c_Mod_hasName 77 = .ok (.iinc 4 1, 3) := by decide +kernel
theorem d_Mod_hasName_80 : decode c_Mod_hasName 80 = .ok (.goto (-54), 3) := by decide +kernel
theorem d_Mod_hasName_83 : decode c_Mod_hasName 83 = .ok (.iinc 3 1, 3) := by decide +kernel
theorem d_Mod_hasName_86 : decode c_Mod_hasName 86 = .ok (.goto (-84), 3) := by decide +kernel
theorem d_Mod_hasName_89 : decode c_Mod_hasName 89 = .ok (.iconst 0, 1) := by decide +kernel
theorem d_Mod_hasName_90 : decode c_Mod_hasName 90 = .ok (.ireturn, 1) := by decide +kernel
abbrev c_Mod_nameOf : ByteArray := prog_10_method_36_code
def y_Mod_nameOf : MethodName := ⟨"NetJoinsModel", "nameOf", "(I)I"⟩
theorem ok_Mod_nameOf : vOK y_Mod_nameOf c_Mod_nameOf 4 (some .int) 1 := ⟨kw_1375, kw_1374, ks_65, kw_8, by decide +kernel⟩
theorem d_Mod_nameOf_0 : decode c_Mod_nameOf 0 = .ok (.iconst (-1), 1) := by decide +kernel
theorem d_Mod_nameOf_1 : decode c_Mod_nameOf 1 = .ok (.istore_n 2, 1) := by decide +kernel
theorem d_Mod_nameOf_2 : decode c_Mod_nameOf 2 = .ok (.iconst 0, 1) := by decide +kernel
theorem d_Mod_nameOf_3 : decode c_Mod_nameOf 3 = .ok (.istore_n 3, 1) := by decide +kernel
theorem d_Mod_nameOf_4 : decode c_Mod_nameOf 4 = .ok (.iload_n 3, 1) := by decide +kernel
theorem d_Mod_nameOf_5 : decode c_Mod_nameOf 5 = .ok (.sipush 1000, 3) := by decide +kernel
theorem d_Mod_nameOf_8 : decode c_Mod_nameOf 8 = .ok (.if_icmp .ge 40, 3) := by decide +kernel
theorem d_Mod_nameOf_11 : decode c_Mod_nameOf 11 = .ok (.iload_n 2, 1) := by decide +kernel
theorem d_Mod_nameOf_12 : decode c_Mod_nameOf 12 = .ok (.iconst (-1), 1) := by decide +kernel
theorem d_Mod_nameOf_13 : decode c_Mod_nameOf 13 = .ok (.if_icmp .eq 18, 3) := by decide +kernel
theorem d_Mod_nameOf_16 : decode c_Mod_nameOf 16 = .ok (.aload_n 0, 1) := by decide +kernel
theorem d_Mod_nameOf_17 : decode c_Mod_nameOf 17 = .ok (.getfield 60, 3) := by decide +kernel
theorem d_Mod_nameOf_20 : decode c_Mod_nameOf 20 = .ok (.iload_n 3, 1) := by decide +kernel
theorem d_Mod_nameOf_21 : decode c_Mod_nameOf 21 = .ok (.iaload, 1) := by decide +kernel
theorem d_Mod_nameOf_22 : decode c_Mod_nameOf 22 = .ok (.aload_n 0, 1) := by decide +kernel
theorem d_Mod_nameOf_23 : decode c_Mod_nameOf 23 = .ok (.getfield 60, 3) := by decide +kernel
theorem d_Mod_nameOf_26 : decode c_Mod_nameOf 26 = .ok (.iload_n 2, 1) := by decide +kernel
theorem d_Mod_nameOf_27 : decode c_Mod_nameOf 27 = .ok (.iaload, 1) := by decide +kernel
theorem d_Mod_nameOf_28 : decode c_Mod_nameOf 28 = .ok (.if_icmp .le 14, 3) := by decide +kernel
theorem d_Mod_nameOf_31 : decode c_Mod_nameOf 31 = .ok (.aload_n 0, 1) := by decide +kernel
theorem d_Mod_nameOf_32 : decode c_Mod_nameOf 32 = .ok (.iload_n 1, 1) := by decide +kernel
theorem d_Mod_nameOf_33 : decode c_Mod_nameOf 33 = .ok (.iload_n 3, 1) := by decide +kernel
theorem d_Mod_nameOf_34 : decode c_Mod_nameOf 34 = .ok (.invokevirtual 191, 3) := by decide +kernel
theorem d_Mod_nameOf_37 : decode c_Mod_nameOf 37 = .ok (.ifCond .eq 5, 3) := by decide +kernel
theorem d_Mod_nameOf_40 : decode c_Mod_nameOf 40 = .ok (.iload_n 3, 1) := by decide +kernel
theorem d_Mod_nameOf_41 : decode c_Mod_nameOf 41 = .ok (.istore_n 2, 1) := by decide +kernel
theorem d_Mod_nameOf_42 : decode c_Mod_nameOf 42 = .ok (.iinc 3 1, 3) := by decide +kernel
theorem d_Mod_nameOf_45 : decode c_Mod_nameOf 45 = .ok (.goto (-41), 3) := by decide +kernel
theorem d_Mod_nameOf_48 : decode c_Mod_nameOf 48 = .ok (.iconst 0, 1) := by decide +kernel
theorem d_Mod_nameOf_49 : decode c_Mod_nameOf 49 = .ok (.istore_n 3, 1) := by decide +kernel
theorem d_Mod_nameOf_50 : decode c_Mod_nameOf 50 = .ok (.iload_n 2, 1) := by decide +kernel
theorem d_Mod_nameOf_51 : decode c_Mod_nameOf 51 = .ok (.iconst (-1), 1) := by decide +kernel
theorem d_Mod_nameOf_52 : decode c_Mod_nameOf 52 = .ok (.if_icmp .ne 19, 3) := by decide +kernel
theorem d_Mod_nameOf_55 : decode c_Mod_nameOf 55 = .ok (.aload_n 0, 1) := by decide +kernel
theorem d_Mod_nameOf_56 : decode c_Mod_nameOf 56 = .ok (.getfield 69, 3) := by decide +kernel
theorem d_Mod_nameOf_59 : decode c_Mod_nameOf 59 = .ok (.iload_n 3, 1) := by decide +kernel
theorem d_Mod_nameOf_60 : decode c_Mod_nameOf 60 = .ok (.iaload, 1) := by decide +kernel
theorem d_Mod_nameOf_61 : decode c_Mod_nameOf 61 = .ok (.iload_n 1, 1) := by decide +kernel
theorem d_Mod_nameOf_62 : decode c_Mod_nameOf 62 = .ok (.if_icmp .eq 9, 3) := by decide +kernel
theorem d_Mod_nameOf_65 : decode c_Mod_nameOf 65 = .ok (.iinc 3 1, 3) := by decide +kernel
theorem d_Mod_nameOf_68 : decode c_Mod_nameOf 68 = .ok (.goto (-18), 3) := by decide +kernel
theorem d_Mod_nameOf_71 : decode c_Mod_nameOf 71 = .ok (.iload_n 2, 1) := by decide +kernel
theorem d_Mod_nameOf_72 : decode c_Mod_nameOf 72 = .ok (.iconst (-1), 1) := by decide +kernel
theorem d_Mod_nameOf_73 : decode c_Mod_nameOf 73 = .ok (.if_icmp .ne 12, 3) := by decide +kernel
theorem d_Mod_nameOf_76 : decode c_Mod_nameOf 76 = .ok (.iconst (-1), 1) := by decide +kernel
theorem d_Mod_nameOf_77 : decode c_Mod_nameOf 77 = .ok (.iload_n 3, 1) := by decide +kernel
theorem d_Mod_nameOf_78 : decode c_Mod_nameOf 78 = .ok (.bipush 16, 2) := by decide +kernel
theorem d_Mod_nameOf_80 : decode c_Mod_nameOf 80 = .ok (.idiv, 1) := by decide +kernel
theorem d_Mod_nameOf_81 : decode c_Mod_nameOf 81 = .ok (.isub, 1) := by decide +kernel
theorem d_Mod_nameOf_82 : decode c_Mod_nameOf 82 = .ok (.goto 4, 3) := by decide +kernel
theorem d_Mod_nameOf_85 : decode c_Mod_nameOf 85 = .ok (.iload_n 2, 1) := by decide +kernel
theorem d_Mod_nameOf_86 : decode c_Mod_nameOf 86 = .ok (.ireturn, 1) := by decide +kernel
abbrev c_Mod_name : ByteArray := prog_10_method_37_code
def y_Mod_name : MethodName := ⟨"NetJoinsModel", "name", "(I)I"⟩
theorem ok_Mod_name : vOK y_Mod_name c_Mod_name 2 (some .int) 1 := ⟨kw_1371, kw_1369, kw_1370, kw_8, by decide +kernel⟩
theorem d_Mod_name_0 : decode c_Mod_name 0 = .ok (.aload_n 0, 1) := by decide +kernel
theorem d_Mod_name_1 : decode c_Mod_name 1 = .ok (.iload_n 1, 1) := by decide +kernel
theorem d_Mod_name_2 : decode c_Mod_name 2 = .ok (.ifCond .lt 15, 3) := by decide +kernel
theorem d_Mod_name_5 : decode c_Mod_name 5 = .ok (.iload_n 1, 1) := by decide +kernel
theorem d_Mod_name_6 : decode c_Mod_name 6 = .ok (.aload_n 0, 1) := by decide +kernel
theorem d_Mod_name_7 : decode c_Mod_name 7 = .ok (.getfield 155, 3) := by decide +kernel
theorem d_Mod_name_10 : decode c_Mod_name 10 = .ok (.if_icmp .ge 7, 3) := by decide +kernel
theorem d_Mod_name_13 : decode c_Mod_name 13 = .ok (.iconst 0, 1) := by decide +kernel
theorem d_Mod_name_14 : decode c_Mod_name 14 = .ok (.goto 4, 3) := by decide +kernel
theorem d_Mod_name_17 : decode c_Mod_name 17 = .ok (.iconst 1, 1) := by decide +kernel
theorem d_Mod_name_18 : decode c_Mod_name 18 = .ok (.putfield 78, 3) := by decide +kernel
theorem d_Mod_name_21 : decode c_Mod_name 21 = .ok (.aload_n 0, 1) := by decide +kernel
theorem d_Mod_name_22 : decode c_Mod_name 22 = .ok (.getfield 78, 3) := by decide +kernel
theorem d_Mod_name_25 : decode c_Mod_name 25 = .ok (.ifCond .ne 11, 3) := by decide +kernel
theorem d_Mod_name_28 : decode c_Mod_name 28 = .ok (.aload_n 0, 1) := by decide +kernel
theorem d_Mod_name_29 : decode c_Mod_name 29 = .ok (.iload_n 1, 1) := by decide +kernel
theorem d_Mod_name_30 : decode c_Mod_name 30 = .ok (.invokevirtual 194, 3) := by decide +kernel
theorem d_Mod_name_33 : decode c_Mod_name 33 = .ok (.goto 4, 3) := by decide +kernel
theorem d_Mod_name_36 : decode c_Mod_name 36 = .ok (.iconst 0, 1) := by decide +kernel
theorem d_Mod_name_37 : decode c_Mod_name 37 = .ok (.ireturn, 1) := by decide +kernel
abbrev c_Mod_open : ByteArray := prog_10_method_38_code
def y_Mod_open : MethodName := ⟨"NetJoinsModel", "open", "(I)Z"⟩
theorem ok_Mod_open : vOK y_Mod_open c_Mod_open 2 (some .boolean) 1 := ⟨kw_1383, kw_1381, kw_1382, kw_8, by decide +kernel⟩
theorem d_Mod_open_0 : decode c_Mod_open 0 = .ok (.aload_n 0, 1) := by decide +kernel
theorem d_Mod_open_1 : decode c_Mod_open 1 = .ok (.iload_n 1, 1) := by decide +kernel
theorem d_Mod_open_2 : decode c_Mod_open 2 = .ok (.ifCond .lt 15, 3) := by decide +kernel
theorem d_Mod_open_5 : decode c_Mod_open 5 = .ok (.iload_n 1, 1) := by decide +kernel
theorem d_Mod_open_6 : decode c_Mod_open 6 = .ok (.aload_n 0, 1) := by decide +kernel
theorem d_Mod_open_7 : decode c_Mod_open 7 = .ok (.getfield 121, 3) := by decide +kernel
theorem d_Mod_open_10 : decode c_Mod_open 10 = .ok (.if_icmp .ge 7, 3) := by decide +kernel
theorem d_Mod_open_13 : decode c_Mod_open 13 = .ok (.iconst 0, 1) := by decide +kernel
theorem d_Mod_open_14 : decode c_Mod_open 14 = .ok (.goto 4, 3) := by decide +kernel
theorem d_Mod_open_17 : decode c_Mod_open 17 = .ok (.iconst 1, 1) := by decide +kernel
theorem d_Mod_open_18 : decode c_Mod_open 18 = .ok (.putfield 78, 3) := by decide +kernel
theorem d_Mod_open_21 : decode c_Mod_open 21 = .ok (.aload_n 0, 1) := by decide +kernel
theorem d_Mod_open_22 : decode c_Mod_open 22 = .ok (.getfield 78, 3) := by decide +kernel
theorem d_Mod_open_25 : decode c_Mod_open 25 = .ok (.ifCond .eq 5, 3) := by decide +kernel
theorem d_Mod_open_28 : decode c_Mod_open 28 = .ok (.iconst 0, 1) := by decide +kernel
theorem d_Mod_open_29 : decode c_Mod_open 29 = .ok (.ireturn, 1) := by decide +kernel
theorem d_Mod_open_30 : decode c_Mod_open 30 = .ok (.aload_n 0, 1) := by decide +kernel
theorem d_Mod_open_31 : decode c_Mod_open 31 = .ok (.getfield 51, 3) := by decide +kernel
theorem d_Mod_open_34 : decode c_Mod_open 34 = .ok (.iload_n 1, 1) := by decide +kernel
theorem d_Mod_open_35 : decode c_Mod_open 35 = .ok (.aload_n 0, 1) := by decide +kernel
theorem d_Mod_open_36 : decode c_Mod_open 36 = .ok (.getfield 51, 3) := by decide +kernel
theorem d_Mod_open_39 : decode c_Mod_open 39 = .ok (.iload_n 1, 1) := by decide +kernel
theorem d_Mod_open_40 : decode c_Mod_open 40 = .ok (.baload, 1) := by decide +kernel
theorem d_Mod_open_41 : decode c_Mod_open 41 = .ok (.ifCond .ne 7, 3) := by decide +kernel
theorem d_Mod_open_44 : decode c_Mod_open 44 = .ok (.iconst 1, 1) := by decide +kernel
theorem d_Mod_open_45 : decode c_Mod_open 45 = .ok (.goto 4, 3) := by decide +kernel
theorem d_Mod_open_48 : decode c_Mod_open 48 = .ok (.iconst 0, 1) := by decide +kernel
theorem d_Mod_open_49 : decode c_Mod_open 49 = .ok (.bastore, 1) := by decide +kernel
theorem d_Mod_open_50 : decode c_Mod_open 50 = .ok (.aload_n 0, 1) := by decide +kernel
theorem d_Mod_open_51 : decode c_Mod_open 51 = .ok (.getfield 51, 3) := by decide +kernel
theorem d_Mod_open_54 : decode c_Mod_open 54 = .ok (.iload_n 1, 1) := by decide +kernel
theorem d_Mod_open_55 : decode c_Mod_open 55 = .ok (.baload, 1) := by decide +kernel
theorem d_Mod_open_56 : decode c_Mod_open 56 = .ok (.ireturn, 1) := by decide +kernel
abbrev c_Mod_isBare : ByteArray := prog_10_method_39_code
def y_Mod_isBare : MethodName := ⟨"NetJoinsModel", "isBare", "(I)Z"⟩
theorem ok_Mod_isBare : vOK y_Mod_isBare c_Mod_isBare 8 (some .boolean) 1 := ⟨kw_1391, kw_1390, ks_67, kw_8, by decide +kernel⟩
theorem d_Mod_isBare_0 : decode c_Mod_isBare 0 = .ok (.aload_n 0, 1) := by decide +kernel
theorem d_Mod_isBare_1 : decode c_Mod_isBare 1 = .ok (.getfield 39, 3) := by decide +kernel
theorem d_Mod_isBare_4 : decode c_Mod_isBare 4 = .ok (.iconst 2, 1) := by decide +kernel
theorem d_Mod_isBare_5 : decode c_Mod_isBare 5 = .ok (.iload_n 1, 1) := by decide +kernel
theorem d_Mod_isBare_6 : decode c_Mod_isBare 6 = .ok (.imul, 1) := by decide +kernel
theorem d_Mod_isBare_7 : decode c_Mod_isBare 7 = .ok (.laload, 1) := by decide +kernel
theorem d_Mod_isBare_8 : decode c_Mod_isBare 8 = .ok (.lstore_n 2, 1) := by decide +kernel
theorem d_Mod_isBare_9 : decode c_Mod_isBare 9 = .ok (.aload_n 0, 1) := by decide +kernel
theorem d_Mod_isBare_10 : decode c_Mod_isBare 10 = .ok (.getfield 39, 3) := by decide +kernel
theorem d_Mod_isBare_13 : decode c_Mod_isBare 13 = .ok (.iconst 2, 1) := by decide +kernel
theorem d_Mod_isBare_14 : decode c_Mod_isBare 14 = .ok (.iload_n 1, 1) := by decide +kernel
theorem d_Mod_isBare_15 : decode c_Mod_isBare 15 = .ok (.imul, 1) := by decide +kernel
theorem d_Mod_isBare_16 : decode c_Mod_isBare 16 = .ok (.iconst 1, 1) := by decide +kernel
theorem d_Mod_isBare_17 : decode c_Mod_isBare 17 = .ok (.iadd, 1) := by decide +kernel
theorem d_Mod_isBare_18 : decode c_Mod_isBare 18 = .ok (.laload, 1) := by decide +kernel
theorem d_Mod_isBare_19 : decode c_Mod_isBare 19 = .ok (.lstore 4, 2) := by decide +kernel
theorem d_Mod_isBare_21 : decode c_Mod_isBare 21 = .ok (.aload_n 0, 1) := by decide +kernel
theorem d_Mod_isBare_22 : decode c_Mod_isBare 22 = .ok (.getfield 33, 3) := by decide +kernel
theorem d_Mod_isBare_25 : decode c_Mod_isBare 25 = .ok (.iload_n 1, 1) := by decide +kernel
theorem d_Mod_isBare_26 : decode c_Mod_isBare 26 = .ok (.iaload, 1) := by decide +kernel
theorem d_Mod_isBare_27 : decode c_Mod_isBare 27 = .ok (.istore 6, 2) := by decide +kernel
theorem d_Mod_isBare_29 : decode c_Mod_isBare 29 = .ok (.iconst 0, 1) := by decide +kernel
theorem d_Mod_isBare_30 : decode c_Mod_isBare 30 = .ok (.istore 7, 2) := by decide +kernel
theorem d_Mod_isBare_32 : decode c_Mod_isBare 32 = .ok (.iload 7, 2) := by decide +kernel
theorem d_Mod_isBare_34 : decode c_Mod_isBare 34 = .ok (.aload_n 0, 1) := by decide +kernel
theorem d_Mod_isBare_35 : decode c_Mod_isBare 35 = .ok (.getfield 97, 3) := by decide +kernel
theorem d_Mod_isBare_38 : decode c_Mod_isBare 38 = .ok (.if_icmp .ge 34, 3) := by decide +kernel
theorem d_Mod_isBare_41 : decode c_Mod_isBare 41 = .ok (.aload_n 0, 1) := by decide +kernel
theorem d_Mod_isBare_42 : decode c_Mod_isBare 42 = .ok (.iload 7, 2) := by decide +kernel
theorem d_Mod_isBare_44 : decode c_Mod_isBare 44 = .ok (.iload 6, 2) := by decide +kernel
theorem d_Mod_isBare_46 : decode c_Mod_isBare 46 = .ok (.invokevirtual 100, 3) := by decide +kernel
theorem d_Mod_isBare_49 : decode c_Mod_isBare 49 = .ok (.ifCond .eq 17, 3) := by decide +kernel
theorem d_Mod_isBare_52 : decode c_Mod_isBare 52 = .ok (.aload_n 0, 1) := by decide +kernel
theorem d_Mod_isBare_53 : decode c_Mod_isBare 53 = .ok (.iload 7, 2) := by decide +kernel
theorem d_Mod_isBare_55 : decode c_Mod_isBare 55 = .ok (.lload_n 2, 1) := by decide +kernel
theorem d_Mod_isBare_56 : decode c_Mod_isBare 56 = .ok (.lload 4, 2) := by decide +kernel
theorem d_Mod_isBare_58 : decode c_Mod_isBare 58 = .ok (.invokevirtual 110, 3) := by decide +kernel
theorem d_Mod_isBare_61 : decode c_Mod_isBare 61 = .ok (.ifCond .eq 5, 3) := by decide +kernel
theorem d_Mod_isBare_64 : decode c_Mod_isBare 64 = .ok (.iconst 0, 1) := by decide +kernel
theorem d_Mod_isBare_65 : decode c_Mod_isBare 65 = .ok (.ireturn, 1) := by decide +kernel
theorem d_Mod_isBare_66 : decode c_Mod_isBare 66 = .ok (.iinc 7 1, 3) := by decide +kernel
theorem d_Mod_isBare_69 : decode c_Mod_isBare 69 = .ok (.goto (-37), 3) := by decide +kernel
theorem d_Mod_isBare_72 : decode c_Mod_isBare 72 = .ok (.iconst 0, 1) := by decide +kernel
theorem d_Mod_isBare_73 : decode c_Mod_isBare 73 = .ok (.istore 7, 2) := by decide +kernel
theorem d_Mod_isBare_75 : decode c_Mod_isBare 75 = .ok (.iload 7, 2) := by decide +kernel
theorem d_Mod_isBare_77 : decode c_Mod_isBare 77 = .ok (.aload_n 0, 1) := by decide +kernel
theorem d_Mod_isBare_78 : decode c_Mod_isBare 78 = .ok (.getfield 121, 3) := by decide +kernel
theorem d_Mod_isBare_81 : decode c_Mod_isBare 81 = .ok (.if_icmp .ge 54, 3) := by decide +kernel
theorem d_Mod_isBare_84 : decode c_Mod_isBare 84 = .ok (.aload_n 0, 1) := by decide +kernel
theorem d_Mod_isBare_85 : decode c_Mod_isBare 85 = .ok (.getfield 42, 3) := by decide +kernel
theorem d_Mod_isBare_88 : decode c_Mod_isBare 88 = .ok (.iload 7, 2) := by decide +kernel
theorem d_Mod_isBare_90 : decode c_Mod_isBare 90 = .ok (.iaload, 1) := by decide +kernel
theorem d_Mod_isBare_91 : decode c_Mod_isBare 91 = .ok (.iload 6, 2) := by decide +kernel
theorem d_Mod_isBare_93 : decode c_Mod_isBare 93 = .ok (.if_icmp .ne 36, 3) := by decide +kernel
theorem d_Mod_isBare_96 : decode c_Mod_isBare 96 = .ok (.aload_n 0, 1) := by decide +kernel
theorem d_Mod_isBare_97 : decode c_Mod_isBare 97 = .ok (.getfield 48, 3) := by decide +kernel
theorem d_Mod_isBare_100 : decode c_Mod_isBare 100 = .ok (.iconst 2, 1) := by decide +kernel
theorem d_Mod_isBare_101 : decode c_Mod_isBare 101 = .ok (.iload 7, 2) := by decide +kernel
theorem d_Mod_isBare_103 : decode c_Mod_isBare 103 = .ok (.imul, 1) := by decide +kernel
theorem d_Mod_isBare_104 : decode c_Mod_isBare 104 = .ok (.laload, 1) := by decide +kernel
theorem d_Mod_isBare_105 : decode c_Mod_isBare 105 = .ok (.lload_n 2, 1) := by decide +kernel
theorem d_Mod_isBare_106 : decode c_Mod_isBare 106 = .ok (.lcmp, 1) := by decide +kernel
theorem d_Mod_isBare_107 : decode c_Mod_isBare 107 = .ok (.ifCond .ne 22, 3) := by decide +kernel
theorem d_Mod_isBare_110 : decode c_Mod_isBare 110 = .ok (.aload_n 0, 1) := by decide +kernel
theorem d_Mod_isBare_111 : decode c_Mod_isBare 111 = .ok (.getfield 48, 3) := by decide +kernel
theorem d_Mod_isBare_114 : decode c_Mod_isBare 114 = .ok (.iconst 2, 1) := by decide +kernel
theorem d_Mod_isBare_115 : decode c_Mod_isBare 115 = .ok (.iload 7, 2) := by decide +kernel
theorem d_Mod_isBare_117 : decode c_Mod_isBare 117 = .ok (.imul, 1) := by decide +kernel
theorem d_Mod_isBare_118 : decode c_Mod_isBare 118 = .ok (.iconst 1, 1) := by decide +kernel
theorem d_Mod_isBare_119 : decode c_Mod_isBare 119 = .ok (.iadd, 1) := by decide +kernel
theorem d_Mod_isBare_120 : decode c_Mod_isBare 120 = .ok (.laload, 1) := by decide +kernel
theorem d_Mod_isBare_121 : decode c_Mod_isBare 121 = .ok (.lload 4, 2) := by decide +kernel
theorem d_Mod_isBare_123 : decode c_Mod_isBare 123 = .ok (.lcmp, 1) := by decide +kernel
theorem d_Mod_isBare_124 : decode c_Mod_isBare 124 = .ok (.ifCond .ne 5, 3) := by decide +kernel
theorem d_Mod_isBare_127 : decode c_Mod_isBare 127 = .ok (.iconst 0, 1) := by decide +kernel
theorem d_Mod_isBare_128 : decode c_Mod_isBare 128 = .ok (.ireturn, 1) := by decide +kernel
theorem d_Mod_isBare_129 : decode c_Mod_isBare 129 = .ok (.iinc 7 1, 3) := by decide +kernel
theorem d_Mod_isBare_132 : decode c_Mod_isBare 132 = .ok (.goto (-57), 3) := by decide +kernel
theorem d_Mod_isBare_135 : decode c_Mod_isBare 135 = .ok (.iconst 1, 1) := by decide +kernel
theorem d_Mod_isBare_136 : decode c_Mod_isBare 136 = .ok (.ireturn, 1) := by decide +kernel
abbrev c_Mod_isJoined : ByteArray := prog_10_method_40_code
def y_Mod_isJoined : MethodName := ⟨"NetJoinsModel", "isJoined", "(I)Z"⟩
theorem ok_Mod_isJoined : vOK y_Mod_isJoined c_Mod_isJoined 4 (some .boolean) 1 := ⟨kw_1396, kw_1395, ks_68, kw_8, by decide +kernel⟩
theorem d_Mod_isJoined_0 : decode c_Mod_isJoined 0 = .ok (.bipush 16, 2) := by decide +kernel
theorem d_Mod_isJoined_2 : decode c_Mod_isJoined 2 = .ok (.iload_n 1, 1) := by decide +kernel
theorem d_Mod_isJoined_3 : decode c_Mod_isJoined 3 = .ok (.imul, 1) := by decide +kernel
theorem d_Mod_isJoined_4 : decode c_Mod_isJoined 4 = .ok (.istore_n 2, 1) := by decide +kernel
theorem d_Mod_isJoined_5 : decode c_Mod_isJoined 5 = .ok (.iload_n 2, 1) := by decide +kernel
theorem d_Mod_isJoined_6 : decode c_Mod_isJoined 6 = .ok (.bipush 16, 2) := by decide +kernel
theorem d_Mod_isJoined_8 : decode c_Mod_isJoined 8 = .ok (.iload_n 1, 1) := by decide +kernel
theorem d_Mod_isJoined_9 : decode c_Mod_isJoined 9 = .ok (.imul, 1) := by decide +kernel
theorem d_Mod_isJoined_10 : decode c_Mod_isJoined 10 = .ok (.bipush 16, 2) := by decide +kernel
theorem d_Mod_isJoined_12 : decode c_Mod_isJoined 12 = .ok (.iadd, 1) := by decide +kernel
theorem d_Mod_isJoined_13 : decode c_Mod_isJoined 13 = .ok (.if_icmp .ge 56, 3) := by decide +kernel
theorem d_Mod_isJoined_16 : decode c_Mod_isJoined 16 = .ok (.iconst 0, 1) := by decide +kernel
theorem d_Mod_isJoined_17 : decode c_Mod_isJoined 17 = .ok (.istore_n 3, 1) := by decide +kernel
theorem d_Mod_isJoined_18 : decode c_Mod_isJoined 18 = .ok (.iload_n 3, 1) := by decide +kernel
theorem d_Mod_isJoined_19 : decode c_Mod_isJoined 19 = .ok (.sipush 960, 3) := by decide +kernel
theorem d_Mod_isJoined_22 : decode c_Mod_isJoined 22 = .ok (.if_icmp .ge 41, 3) := by decide +kernel
theorem d_Mod_isJoined_25 : decode c_Mod_isJoined 25 = .ok (.aload_n 0, 1) := by decide +kernel
theorem d_Mod_isJoined_26 : decode c_Mod_isJoined 26 = .ok (.getfield 69, 3) := by decide +kernel
theorem d_Mod_isJoined_29 : decode c_Mod_isJoined 29 = .ok (.iload_n 2, 1) := by decide +kernel
theorem d_Mod_isJoined_30 : decode c_Mod_isJoined 30 = .ok (.iaload, 1) := by decide +kernel
theorem d_Mod_isJoined_31 : decode c_Mod_isJoined 31 = .ok (.iconst (-1), 1) := by decide +kernel
theorem d_Mod_isJoined_32 : decode c_Mod_isJoined 32 = .ok (.if_icmp .eq 31, 3) := by decide +kernel
theorem d_Mod_isJoined_35 : decode c_Mod_isJoined 35 = .ok (.iload_n 3, 1) := by decide +kernel
theorem d_Mod_isJoined_36 : decode c_Mod_isJoined 36 = .ok (.iload_n 2, 1) := by decide +kernel
theorem d_Mod_isJoined_37 : decode c_Mod_isJoined 37 = .ok (.if_icmp .eq 20, 3) := by decide +kernel
theorem d_Mod_isJoined_40 : decode c_Mod_isJoined 40 = .ok (.aload_n 0, 1) := by decide +kernel
theorem d_Mod_isJoined_41 : decode c_Mod_isJoined 41 = .ok (.getfield 69, 3) := by decide +kernel
theorem d_Mod_isJoined_44 : decode c_Mod_isJoined 44 = .ok (.iload_n 3, 1) := by decide +kernel
theorem d_Mod_isJoined_45 : decode c_Mod_isJoined 45 = .ok (.iaload, 1) := by decide +kernel
theorem d_Mod_isJoined_46 : decode c_Mod_isJoined 46 = .ok (.aload_n 0, 1) := by decide +kernel
theorem d_Mod_isJoined_47 : decode c_Mod_isJoined 47 = .ok (.getfield 69, 3) := by decide +kernel
theorem d_Mod_isJoined_50 : decode c_Mod_isJoined 50 = .ok (.iload_n 2, 1) := by decide +kernel
theorem d_Mod_isJoined_51 : decode c_Mod_isJoined 51 = .ok (.iaload, 1) := by decide +kernel
theorem d_Mod_isJoined_52 : decode c_Mod_isJoined 52 = .ok (.if_icmp .ne 5, 3) := by decide +kernel
theorem d_Mod_isJoined_55 : decode c_Mod_isJoined 55 = .ok (.iconst 1, 1) := by decide +kernel
theorem d_Mod_isJoined_56 : decode c_Mod_isJoined 56 = .ok (.ireturn, 1) := by decide +kernel
theorem d_Mod_isJoined_57 : decode c_Mod_isJoined 57 = .ok (.iinc 3 1, 3) := by decide +kernel
theorem d_Mod_isJoined_60 : decode c_Mod_isJoined 60 = .ok (.goto (-42), 3) := by decide +kernel
theorem d_Mod_isJoined_63 : decode c_Mod_isJoined 63 = .ok (.iinc 2 1, 3) := by decide +kernel
theorem d_Mod_isJoined_66 : decode c_Mod_isJoined 66 = .ok (.goto (-61), 3) := by decide +kernel
theorem d_Mod_isJoined_69 : decode c_Mod_isJoined 69 = .ok (.iconst 0, 1) := by decide +kernel
theorem d_Mod_isJoined_70 : decode c_Mod_isJoined 70 = .ok (.ireturn, 1) := by decide +kernel
abbrev c_Mod_told : ByteArray := prog_10_method_41_code
def y_Mod_told : MethodName := ⟨"NetJoinsModel", "told", "(I)I"⟩
theorem ok_Mod_told : vOK y_Mod_told c_Mod_told 6 (some .int) 1 := ⟨kw_1387, kw_1385, kw_1386, kw_8, by decide +kernel⟩
theorem d_Mod_told_0 : decode c_Mod_told 0 = .ok (.aload_n 0, 1) := by decide +kernel
theorem d_Mod_told_1 : decode c_Mod_told 1 = .ok (.iconst 0, 1) := by decide +kernel
theorem d_Mod_told_2 : decode c_Mod_told 2 = .ok (.putfield 78, 3) := by decide +kernel
theorem d_Mod_told_5 : decode c_Mod_told 5 = .ok (.iload_n 1, 1) := by decide +kernel
theorem d_Mod_told_6 : decode c_Mod_told 6 = .ok (.ifCond .ge 5, 3) := by decide +kernel
theorem d_Mod_told_9 : decode c_Mod_told 9 = .ok (.iconst (-1), 1) := by decide +kernel
theorem d_Mod_told_10 : decode c_Mod_told 10 = .ok (.ireturn, 1) := by decide +kernel
theorem d_Mod_told_11 : decode c_Mod_told 11 = .ok (.iload_n 1, 1) := by decide +kernel
theorem d_Mod_told_12 : decode c_Mod_told 12 = .ok (.istore_n 2, 1) := by decide +kernel
theorem d_Mod_told_13 : decode c_Mod_told 13 = .ok (.iconst 0, 1) := by decide +kernel
theorem d_Mod_told_14 : decode c_Mod_told 14 = .ok (.istore_n 3, 1) := by decide +kernel
theorem d_Mod_told_15 : decode c_Mod_told 15 = .ok (.iload_n 3, 1) := by decide +kernel
theorem d_Mod_told_16 : decode c_Mod_told 16 = .ok (.aload_n 0, 1) := by decide +kernel
theorem d_Mod_told_17 : decode c_Mod_told 17 = .ok (.getfield 155, 3) := by decide +kernel
theorem d_Mod_told_20 : decode c_Mod_told 20 = .ok (.if_icmp .ge 74, 3) := by decide +kernel
theorem d_Mod_told_23 : decode c_Mod_told 23 = .ok (.aload_n 0, 1) := by decide +kernel
theorem d_Mod_told_24 : decode c_Mod_told 24 = .ok (.iload_n 3, 1) := by decide +kernel
theorem d_Mod_told_25 : decode c_Mod_told 25 = .ok (.invokevirtual 194, 3) := by decide +kernel
theorem d_Mod_told_28 : decode c_Mod_told 28 = .ok (.istore 4, 2) := by decide +kernel
theorem d_Mod_told_30 : decode c_Mod_told 30 = .ok (.iconst 0, 1) := by decide +kernel
theorem d_Mod_told_31 : decode c_Mod_told 31 = .ok (.istore 5, 2) := by decide +kernel
theorem d_Mod_told_33 : decode c_Mod_told 33 = .ok (.iload 5, 2) := by decide +kernel
theorem d_Mod_told_35 : decode c_Mod_told 35 = .ok (.sipush 1000, 3) := by decide +kernel
theorem d_Mod_told_38 : decode c_Mod_told 38 = .ok (.if_icmp .ge 50, 3) := by decide +kernel
theorem d_Mod_told_41 : decode c_Mod_told 41 = .ok (.iload 4, 2) := by decide +kernel
theorem d_Mod_told_43 : decode c_Mod_told 43 = .ok (.ifCond .lt 45, 3) := by decide +kernel
theorem d_Mod_told_46 : decode c_Mod_told 46 = .ok (.iload 5, 2) := by decide +kernel
theorem d_Mod_told_48 : decode c_Mod_told 48 = .ok (.iload 4, 2) := by decide +kernel
theorem d_Mod_told_50 : decode c_Mod_told 50 = .ok (.if_icmp .eq 32, 3) := by decide +kernel
theorem d_Mod_told_53 : decode c_Mod_told 53 = .ok (.aload_n 0, 1) := by decide +kernel
theorem d_Mod_told_54 : decode c_Mod_told 54 = .ok (.iload_n 3, 1) := by decide +kernel
theorem d_Mod_told_55 : decode c_Mod_told 55 = .ok (.iload 5, 2) := by decide +kernel
theorem d_Mod_told_57 : decode c_Mod_told 57 = .ok (.invokevirtual 191, 3) := by decide +kernel
theorem d_Mod_told_60 : decode c_Mod_told 60 = .ok (.ifCond .ne 6, 3) := by decide +kernel
theorem d_Mod_told_63 : decode c_Mod_told 63 = .ok (.goto 19, 3) := by decide +kernel
theorem d_Mod_told_66 : decode c_Mod_told 66 = .ok (.iload_n 2, 1) := by decide +kernel
theorem d_Mod_told_67 : decode c_Mod_told 67 = .ok (.ifCond .ne 12, 3) := by decide +kernel
theorem d_Mod_told_70 : decode c_Mod_told 70 = .ok (.sipush 1000, 3) := by decide +kernel
theorem d_Mod_told_73 : decode c_Mod_told 73 = .ok (.iload_n 3, 1) := by decide +kernel
theorem d_Mod_told_74 : decode c_Mod_told 74 = .ok (.imul, 1) := by decide +kernel
theorem d_Mod_told_75 : decode c_Mod_told 75 = .ok (.iload 5, 2) := by decide +kernel
theorem d_Mod_told_77 : decode c_Mod_told 77 = .ok (.iadd, 1) := by decide +kernel
theorem d_Mod_told_78 : decode c_Mod_told 78 = .ok (.ireturn, 1) := by decide +kernel
theorem d_Mod_told_79 : decode c_Mod_told 79 = .ok (.iinc 2 (-1), 3) := by decide +kernel
theorem d_Mod_told_82 : decode c_Mod_told 82 = .ok (.iinc 5 1, 3) := by decide +kernel
theorem d_Mod_told_85 : decode c_Mod_told 85 = .ok (.goto (-52), 3) := by decide +kernel
theorem d_Mod_told_88 : decode c_Mod_told 88 = .ok (.iinc 3 1, 3) := by decide +kernel
theorem d_Mod_told_91 : decode c_Mod_told 91 = .ok (.goto (-76), 3) := by decide +kernel
theorem d_Mod_told_94 : decode c_Mod_told 94 = .ok (.iconst 0, 1) := by decide +kernel
theorem d_Mod_told_95 : decode c_Mod_told 95 = .ok (.istore_n 3, 1) := by decide +kernel
theorem d_Mod_told_96 : decode c_Mod_told 96 = .ok (.iload_n 3, 1) := by decide +kernel
theorem d_Mod_told_97 : decode c_Mod_told 97 = .ok (.aload_n 0, 1) := by decide +kernel
theorem d_Mod_told_98 : decode c_Mod_told 98 = .ok (.getfield 118, 3) := by decide +kernel
theorem d_Mod_told_101 : decode c_Mod_told 101 = .ok (.if_icmp .ge 32, 3) := by decide +kernel
theorem d_Mod_told_104 : decode c_Mod_told 104 = .ok (.aload_n 0, 1) := by decide +kernel
theorem d_Mod_told_105 : decode c_Mod_told 105 = .ok (.iload_n 3, 1) := by decide +kernel
theorem d_Mod_told_106 : decode c_Mod_told 106 = .ok (.invokevirtual 197, 3) := by decide +kernel
theorem d_Mod_told_109 : decode c_Mod_told 109 = .ok (.ifCond .ne 6, 3) := by decide +kernel
theorem d_Mod_told_112 : decode c_Mod_told 112 = .ok (.goto 15, 3) := by decide +kernel
theorem d_Mod_told_115 : decode c_Mod_told 115 = .ok (.iload_n 2, 1) := by decide +kernel
theorem d_Mod_told_116 : decode c_Mod_told 116 = .ok (.ifCond .ne 8, 3) := by decide +kernel
theorem d_Mod_told_119 : decode c_Mod_told 119 = .ok (.ldc 200, 2) := by decide +kernel
theorem d_Mod_told_121 : decode c_Mod_told 121 = .ok (.iload_n 3, 1) := by decide +kernel
theorem d_Mod_told_122 : decode c_Mod_told 122 = .ok (.iadd, 1) := by decide +kernel
theorem d_Mod_told_123 : decode c_Mod_told 123 = .ok (.ireturn, 1) := by decide +kernel
theorem d_Mod_told_124 : decode c_Mod_told 124 = .ok (.iinc 2 (-1), 3) := by decide +kernel
theorem d_Mod_told_127 : decode c_Mod_told 127 = .ok (.iinc 3 1, 3) := by decide +kernel
theorem d_Mod_told_130 : decode c_Mod_told 130 = .ok (.goto (-34), 3) := by decide +kernel
theorem d_Mod_told_133 : decode c_Mod_told 133 = .ok (.iconst 0, 1) := by decide +kernel
theorem d_Mod_told_134 : decode c_Mod_told 134 = .ok (.istore_n 3, 1) := by decide +kernel
theorem d_Mod_told_135 : decode c_Mod_told 135 = .ok (.iload_n 3, 1) := by decide +kernel
theorem d_Mod_told_136 : decode c_Mod_told 136 = .ok (.aload_n 0, 1) := by decide +kernel
theorem d_Mod_told_137 : decode c_Mod_told 137 = .ok (.getfield 121, 3) := by decide +kernel
theorem d_Mod_told_140 : decode c_Mod_told 140 = .ok (.if_icmp .ge 41, 3) := by decide +kernel
theorem d_Mod_told_143 : decode c_Mod_told 143 = .ok (.aload_n 0, 1) := by decide +kernel
theorem d_Mod_told_144 : decode c_Mod_told 144 = .ok (.getfield 51, 3) := by decide +kernel
theorem d_Mod_told_147 : decode c_Mod_told 147 = .ok (.iload_n 3, 1) := by decide +kernel
theorem d_Mod_told_148 : decode c_Mod_told 148 = .ok (.baload, 1) := by decide +kernel
theorem d_Mod_told_149 : decode c_Mod_told 149 = .ok (.ifCond .eq 26, 3) := by decide +kernel
theorem d_Mod_told_152 : decode c_Mod_told 152 = .ok (.aload_n 0, 1) := by decide +kernel
theorem d_Mod_told_153 : decode c_Mod_told 153 = .ok (.iload_n 3, 1) := by decide +kernel
theorem d_Mod_told_154 : decode c_Mod_told 154 = .ok (.invokevirtual 201, 3) := by decide +kernel
theorem d_Mod_told_157 : decode c_Mod_told 157 = .ok (.ifCond .ne 6, 3) := by decide +kernel
theorem d_Mod_told_160 : decode c_Mod_told 160 = .ok (.goto 15, 3) := by decide +kernel
theorem d_Mod_told_163 : decode c_Mod_told 163 = .ok (.iload_n 2, 1) := by decide +kernel
theorem d_Mod_told_164 : decode c_Mod_told 164 = .ok (.ifCond .ne 8, 3) := by decide +kernel
theorem d_Mod_told_167 : decode c_Mod_told 167 = .ok (.ldc 204, 2) := by decide +kernel
theorem d_Mod_told_169 : decode c_Mod_told 169 = .ok (.iload_n 3, 1) := by decide +kernel
theorem d_Mod_told_170 : decode c_Mod_told 170 = .ok (.iadd, 1) := by decide +kernel
theorem d_Mod_told_171 : decode c_Mod_told 171 = .ok (.ireturn, 1) := by decide +kernel
theorem d_Mod_told_172 : decode c_Mod_told 172 = .ok (.iinc 2 (-1), 3) := by decide +kernel
theorem d_Mod_told_175 : decode c_Mod_told 175 = .ok (.iinc 3 1, 3) := by decide +kernel
theorem d_Mod_told_178 : decode c_Mod_told 178 = .ok (.goto (-43), 3) := by decide +kernel
theorem d_Mod_told_181 : decode c_Mod_told 181 = .ok (.iconst (-1), 1) := by decide +kernel
theorem d_Mod_told_182 : decode c_Mod_told 182 = .ok (.ireturn, 1) := by decide +kernel
abbrev c_Mod_same : ByteArray := prog_10_method_42_code
def y_Mod_same : MethodName := ⟨"NetJoinsModel", "same", "()Z"⟩
theorem ok_Mod_same : vOK y_Mod_same c_Mod_same 1 (some .boolean) 0 := ⟨kw_1401, kw_1399, kw_1400, kw_8, by decide +kernel⟩
theorem d_Mod_same_0 : decode c_Mod_same 0 = .ok (.aload_n 0, 1) := by decide +kernel
theorem d_Mod_same_1 : decode c_Mod_same 1 = .ok (.iconst 0, 1) := by decide +kernel
theorem d_Mod_same_2 : decode c_Mod_same 2 = .ok (.putfield 78, 3) := by decide +kernel
theorem d_Mod_same_5 : decode c_Mod_same 5 = .ok (.iconst 1, 1) := by decide +kernel
theorem d_Mod_same_6 : decode c_Mod_same 6 = .ok (.ireturn, 1) := by decide +kernel
abbrev c_Mod_changed : ByteArray := prog_10_method_43_code
def y_Mod_changed : MethodName := ⟨"NetJoinsModel", "changed", "(I)I"⟩
theorem ok_Mod_changed : vOK y_Mod_changed c_Mod_changed 4 (some .int) 1 := ⟨kw_1405, kw_1403, kw_1404, kw_8, by decide +kernel⟩
theorem d_Mod_changed_0 : decode c_Mod_changed 0 = .ok (.aload_n 0, 1) := by decide +kernel
theorem d_Mod_changed_1 : decode c_Mod_changed 1 = .ok (.iconst 0, 1) := by decide +kernel
theorem d_Mod_changed_2 : decode c_Mod_changed 2 = .ok (.putfield 78, 3) := by decide +kernel
theorem d_Mod_changed_5 : decode c_Mod_changed 5 = .ok (.iload_n 1, 1) := by decide +kernel
theorem d_Mod_changed_6 : decode c_Mod_changed 6 = .ok (.istore_n 2, 1) := by decide +kernel
theorem d_Mod_changed_7 : decode c_Mod_changed 7 = .ok (.iconst 0, 1) := by decide +kernel
theorem d_Mod_changed_8 : decode c_Mod_changed 8 = .ok (.istore_n 3, 1) := by decide +kernel
theorem d_Mod_changed_9 : decode c_Mod_changed 9 = .ok (.iload_n 3, 1) := by decide +kernel
theorem d_Mod_changed_10 : decode c_Mod_changed 10 = .ok (.aload_n 0, 1) := by decide +kernel
theorem d_Mod_changed_11 : decode c_Mod_changed 11 = .ok (.getfield 155, 3) := by decide +kernel
theorem d_Mod_changed_14 : decode c_Mod_changed 14 = .ok (.if_icmp .ge 34, 3) := by decide +kernel
theorem d_Mod_changed_17 : decode c_Mod_changed 17 = .ok (.iload_n 1, 1) := by decide +kernel
theorem d_Mod_changed_18 : decode c_Mod_changed 18 = .ok (.ifCond .lt 30, 3) := by decide +kernel
theorem d_Mod_changed_21 : decode c_Mod_changed 21 = .ok (.aload_n 0, 1) := by decide +kernel
theorem d_Mod_changed_22 : decode c_Mod_changed 22 = .ok (.getfield 75, 3) := by decide +kernel
theorem d_Mod_changed_25 : decode c_Mod_changed 25 = .ok (.iload_n 3, 1) := by decide +kernel
theorem d_Mod_changed_26 : decode c_Mod_changed 26 = .ok (.baload, 1) := by decide +kernel
theorem d_Mod_changed_27 : decode c_Mod_changed 27 = .ok (.ifCond .ne 6, 3) := by decide +kernel
theorem d_Mod_changed_30 : decode c_Mod_changed 30 = .ok (.goto 12, 3) := by decide +kernel
theorem d_Mod_changed_33 : decode c_Mod_changed 33 = .ok (.iload_n 2, 1) := by decide +kernel
theorem d_Mod_changed_34 : decode c_Mod_changed 34 = .ok (.ifCond .ne 5, 3) := by decide +kernel
theorem d_Mod_changed_37 : decode c_Mod_changed 37 = .ok (.iload_n 3, 1) := by decide +kernel
theorem d_Mod_changed_38 : decode c_Mod_changed 38 = .ok (.ireturn, 1) := by decide +kernel
theorem d_Mod_changed_39 : decode c_Mod_changed 39 = .ok (.iinc 2 (-1), 3) := by decide +kernel
theorem d_Mod_changed_42 : decode c_Mod_changed 42 = .ok (.iinc 3 1, 3) := by decide +kernel
theorem d_Mod_changed_45 : decode c_Mod_changed 45 = .ok (.goto (-36), 3) := by decide +kernel
theorem d_Mod_changed_48 : decode c_Mod_changed 48 = .ok (.iconst (-1), 1) := by decide +kernel
theorem d_Mod_changed_49 : decode c_Mod_changed 49 = .ok (.ireturn, 1) := by decide +kernel
