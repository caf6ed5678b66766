abbrev c_ABC_init : ByteArray := prog_28_method_1_code
def y_ABC_init : MethodName := ⟨"java/util/AbstractCollection", "<init>", "()V"⟩
theorem ok_ABC_init : iOK y_ABC_init c_ABC_init 1 0 := ⟨kw_49, kw_48, kw_2, rfl, by decide +kernel⟩
theorem d_ABC_init_0 : decode c_ABC_init 0 = .ok (.aload_n 0, 1) := by decide +kernel
theorem d_ABC_init_1 : decode c_ABC_init 1 = .ok (.invokespecial 1, 3) := by decide +kernel
theorem d_ABC_init_4 : decode c_ABC_init 4 = .ok (.return_, 1) := by decide +kernel
abbrev c_ABL_init : ByteArray := prog_29_method_1_code
def y_ABL_init : MethodName := ⟨"java/util/AbstractList", "<init>", "()V"⟩
theorem ok_ABL_init : iOK y_ABL_init c_ABL_init 1 0 := ⟨kw_46, kw_45, kw_3, rfl, by decide +kernel⟩
theorem d_ABL_init_0 : decode c_ABL_init 0 = .ok (.aload_n 0, 1) := by decide +kernel
theorem d_ABL_init_1 : decode c_ABL_init 1 = .ok (.invokespecial 1, 3) := by decide +kernel
theorem d_ABL_init_4 : decode c_ABL_init 4 = .ok (.aload_n 0, 1) := by decide +kernel
theorem d_ABL_init_5 : decode c_ABL_init 5 = .ok (.iconst 0, 1) := by decide +kernel
theorem d_ABL_init_6 : decode c_ABL_init 6 = .ok (.putfield 7, 3) := by decide +kernel
theorem d_ABL_init_9 : decode c_ABL_init 9 = .ok (.return_, 1) := by decide +kernel
abbrev c_AL_init : ByteArray := prog_30_method_2_code
def y_AL_init : MethodName := ⟨"java/util/ArrayList", "<init>", "()V"⟩
theorem ok_AL_init : iOK y_AL_init c_AL_init 1 0 := ⟨kw_43, kw_42, kw_4, rfl, by decide +kernel⟩
theorem d_AL_init_0 : decode c_AL_init 0 = .ok (.aload_n 0, 1) := by decide +kernel
theorem d_AL_init_1 : decode c_AL_init 1 = .ok (.invokespecial 1, 3) := by decide +kernel
theorem d_AL_init_4 : decode c_AL_init 4 = .ok (.aload_n 0, 1) := by decide +kernel
theorem d_AL_init_5 : decode c_AL_init 5 = .ok (.getstatic 39, 3) := by decide +kernel
theorem d_AL_init_8 : decode c_AL_init 8 = .ok (.putfield 9, 3) := by decide +kernel
theorem d_AL_init_11 : decode c_AL_init 11 = .ok (.return_, 1) := by decide +kernel
abbrev c_AL_size : ByteArray := prog_30_method_8_code
def y_AL_size : MethodName := ⟨"java/util/ArrayList", "size", "()I"⟩
theorem ok_AL_size : vOK y_AL_size c_AL_size 1 (some .int) 0 := ⟨kw_195, kw_193, kw_194, kw_4, by decide +kernel⟩
theorem d_AL_size_0 : decode c_AL_size 0 = .ok (.aload_n 0, 1) := by decide +kernel
theorem d_AL_size_1 : decode c_AL_size 1 = .ok (.getfield 48, 3) := by decide +kernel
theorem d_AL_size_4 : decode c_AL_size 4 = .ok (.ireturn, 1) := by decide +kernel
abbrev c_PRE_checkIndex : ByteArray := prog_38_method_11_code
def y_PRE_checkIndex : MethodName := ⟨"jdk/internal/util/Preconditions", "checkIndex", "(IILjava/util/function/BiFunction;)I"⟩
theorem ok_PRE_checkIndex : sOK y_PRE_checkIndex c_PRE_checkIndex 3 (some .int) 3 := ⟨kw_205, kw_204, kw_14, by decide +kernel⟩
theorem d_PRE_checkIndex_0 : decode c_PRE_checkIndex 0 = .ok (.iload_n 0, 1) := by decide +kernel
theorem d_PRE_checkIndex_1 : decode c_PRE_checkIndex 1 = .ok (.ifCond .lt 8, 3) := by decide +kernel
theorem d_PRE_checkIndex_4 : decode c_PRE_checkIndex 4 = .ok (.iload_n 0, 1) := by decide +kernel
theorem d_PRE_checkIndex_5 : decode c_PRE_checkIndex 5 = .ok (.iload_n 1, 1) := by decide +kernel
theorem d_PRE_checkIndex_6 : decode c_PRE_checkIndex 6 = .ok (.if_icmp .lt 10, 3) := by decide +kernel
theorem d_PRE_checkIndex_9 : decode c_PRE_checkIndex 9 = .ok (.aload_n 2, 1) := by decide +kernel
theorem d_PRE_checkIndex_10 : decode c_PRE_checkIndex 10 = .ok (.iload_n 0, 1) := by decide +kernel
theorem d_PRE_checkIndex_11 : decode c_PRE_checkIndex 11 = .ok (.iload_n 1, 1) := by decide +kernel
theorem d_PRE_checkIndex_12 : decode c_PRE_checkIndex 12 = .ok (.invokestatic 95, 3) := by decide +kernel
theorem d_PRE_checkIndex_15 : decode c_PRE_checkIndex 15 = .ok (.athrow, 1) := by decide +kernel
theorem d_PRE_checkIndex_16 : decode c_PRE_checkIndex 16 = .ok (.iload_n 0, 1) := by decide +kernel
theorem d_PRE_checkIndex_17 : decode c_PRE_checkIndex 17 = .ok (.ireturn, 1) := by decide +kernel
abbrev c_OBJ_checkIndex : ByteArray := prog_34_method_17_code
def y_OBJ_checkIndex : MethodName := ⟨"java/util/Objects", "checkIndex", "(II)I"⟩
theorem ok_OBJ_checkIndex : sOK y_OBJ_checkIndex c_OBJ_checkIndex 2 (some .int) 2 := ⟨kw_202, kw_201, kw_13, by decide +kernel⟩
theorem d_OBJ_checkIndex_0 : decode c_OBJ_checkIndex 0 = .ok (.iload_n 0, 1) := by decide +kernel
theorem d_OBJ_checkIndex_1 : decode c_OBJ_checkIndex 1 = .ok (.iload_n 1, 1) := by decide +kernel
theorem d_OBJ_checkIndex_2 : decode c_OBJ_checkIndex 2 = .ok (.aconst_null, 1) := by decide +kernel
theorem d_OBJ_checkIndex_3 : decode c_OBJ_checkIndex 3 = .ok (.invokestatic 105, 3) := by decide +kernel
theorem d_OBJ_checkIndex_6 : decode c_OBJ_checkIndex 6 = .ok (.ireturn, 1) := by decide +kernel
abbrev c_AL_elementData : ByteArray := prog_30_method_18_code
def y_AL_elementData : MethodName := ⟨"java/util/ArrayList", "elementData", "(I)Ljava/lang/Object;"⟩
theorem ok_AL_elementData : vOK y_AL_elementData c_AL_elementData 2 (some (.object "java/lang/Object")) 1 := ⟨kw_209, kw_207, kw_208, kw_4, by decide +kernel⟩
theorem d_AL_elementData_0 : decode c_AL_elementData 0 = .ok (.aload_n 0, 1) := by decide +kernel
theorem d_AL_elementData_1 : decode c_AL_elementData 1 = .ok (.getfield 9, 3) := by decide +kernel
theorem d_AL_elementData_4 : decode c_AL_elementData 4 = .ok (.iload_n 1, 1) := by decide +kernel
theorem d_AL_elementData_5 : decode c_AL_elementData 5 = .ok (.aaload, 1) := by decide +kernel
theorem d_AL_elementData_6 : decode c_AL_elementData 6 = .ok (.areturn, 1) := by decide +kernel
abbrev c_AL_get : ByteArray := prog_30_method_20_code
def y_AL_get : MethodName := ⟨"java/util/ArrayList", "get", "(I)Ljava/lang/Object;"⟩
theorem ok_AL_get : vOK y_AL_get c_AL_get 2 (some (.object "java/lang/Object")) 1 := ⟨kw_199, kw_197, kw_198, kw_4, by decide +kernel⟩
theorem d_AL_get_0 : decode c_AL_get 0 = .ok (.iload_n 1, 1) := by decide +kernel
theorem d_AL_get_1 : decode c_AL_get 1 = .ok (.aload_n 0, 1) := by decide +kernel
theorem d_AL_get_2 : decode c_AL_get 2 = .ok (.getfield 48, 3) := by decide +kernel
theorem d_AL_get_5 : decode c_AL_get 5 = .ok (.invokestatic 118, 3) := by decide +kernel
theorem d_AL_get_8 : decode c_AL_get 8 = .ok (.pop, 1) := by decide +kernel
theorem d_AL_get_9 : decode c_AL_get 9 = .ok (.aload_n 0, 1) := by decide +kernel
theorem d_AL_get_10 : decode c_AL_get 10 = .ok (.iload_n 1, 1) := by decide +kernel
theorem d_AL_get_11 : decode c_AL_get 11 = .ok (.invokevirtual 123, 3) := by decide +kernel
theorem d_AL_get_14 : decode c_AL_get 14 = .ok (.areturn, 1) := by decide +kernel
abbrev c_SUP_newLength : ByteArray := prog_37_method_27_code
def y_SUP_newLength : MethodName := ⟨"jdk/internal/util/ArraysSupport", "newLength", "(III)I"⟩
theorem ok_SUP_newLength : sOK y_SUP_newLength c_SUP_newLength 4 (some .int) 3 := ⟨kw_564, kw_563, kw_17, by decide +kernel⟩
theorem d_SUP_newLength_0 : decode c_SUP_newLength 0 = .ok (.iload_n 0, 1) := by decide +kernel
theorem d_SUP_newLength_1 : decode c_SUP_newLength 1 = .ok (.iload_n 1, 1) := by decide +kernel
theorem d_SUP_newLength_2 : decode c_SUP_newLength 2 = .ok (.iload_n 2, 1) := by decide +kernel
theorem d_SUP_newLength_3 : decode c_SUP_newLength 3 = .ok (.invokestatic 194, 3) := by decide +kernel
theorem d_SUP_newLength_6 : decode c_SUP_newLength 6 = .ok (.iadd, 1) := by decide +kernel
theorem d_SUP_newLength_7 : decode c_SUP_newLength 7 = .ok (.istore_n 3, 1) := by decide +kernel
theorem d_SUP_newLength_8 : decode c_SUP_newLength 8 = .ok (.iconst 0, 1) := by decide +kernel
theorem d_SUP_newLength_9 : decode c_SUP_newLength 9 = .ok (.iload_n 3, 1) := by decide +kernel
theorem d_SUP_newLength_10 : decode c_SUP_newLength 10 = .ok (.if_icmp .ge 11, 3) := by decide +kernel
theorem d_SUP_newLength_13 : decode c_SUP_newLength 13 = .ok (.iload_n 3, 1) := by decide +kernel
theorem d_SUP_newLength_14 : decode c_SUP_newLength 14 = .ok (.ldc 200, 2) := by decide +kernel
theorem d_SUP_newLength_16 : decode c_SUP_newLength 16 = .ok (.if_icmp .gt 5, 3) := by decide +kernel
theorem d_SUP_newLength_19 : decode c_SUP_newLength 19 = .ok (.iload_n 3, 1) := by decide +kernel
theorem d_SUP_newLength_20 : decode c_SUP_newLength 20 = .ok (.ireturn, 1) := by decide +kernel
theorem d_SUP_newLength_21 : decode c_SUP_newLength 21 = .ok (.iload_n 0, 1) := by decide +kernel
theorem d_SUP_newLength_22 : decode c_SUP_newLength 22 = .ok (.iload_n 1, 1) := by decide +kernel
theorem d_SUP_newLength_23 : decode c_SUP_newLength 23 = .ok (.invokestatic 201, 3) := by decide +kernel
theorem d_SUP_newLength_26 : decode c_SUP_newLength 26 = .ok (.ireturn, 1) := by decide +kernel
abbrev c_ARR_copyOf : ByteArray := prog_31_method_120_code
def y_ARR_copyOf : MethodName := ⟨"java/util/Arrays", "copyOf", "([Ljava/lang/Object;ILjava/lang/Class;)[Ljava/lang/Object;"⟩
theorem ok_ARR_copyOf : sOK y_ARR_copyOf c_ARR_copyOf 4 (some (.array (.object "java/lang/Object"))) 3 := ⟨kw_594, kw_593, kw_7, by decide +kernel⟩
theorem d_ARR_copyOf_0 : decode c_ARR_copyOf 0 = .ok (.aload_n 2, 1) := by decide +kernel
theorem d_ARR_copyOf_1 : decode c_ARR_copyOf 1 = .ok (.ldc 110, 2) := by decide +kernel
theorem d_ARR_copyOf_3 : decode c_ARR_copyOf 3 = .ok (.if_acmp .ne 10, 3) := by decide +kernel
theorem d_ARR_copyOf_6 : decode c_ARR_copyOf 6 = .ok (.iload_n 1, 1) := by decide +kernel
theorem d_ARR_copyOf_7 : decode c_ARR_copyOf 7 = .ok (.anewarray 2, 3) := by decide +kernel
theorem d_ARR_copyOf_10 : decode c_ARR_copyOf 10 = .ok (.goto 14, 3) := by decide +kernel
theorem d_ARR_copyOf_13 : decode c_ARR_copyOf 13 = .ok (.aload_n 2, 1) := by decide +kernel
theorem d_ARR_copyOf_14 : decode c_ARR_copyOf 14 = .ok (.invokevirtual 90, 3) := by decide +kernel
theorem d_ARR_copyOf_17 : decode c_ARR_copyOf 17 = .ok (.iload_n 1, 1) := by decide +kernel
theorem d_ARR_copyOf_18 : decode c_ARR_copyOf 18 = .ok (.invokestatic 95, 3) := by decide +kernel
theorem d_ARR_copyOf_21 : decode c_ARR_copyOf 21 = .ok (.checkcast 110, 3) := by decide +kernel
theorem d_ARR_copyOf_24 : decode c_ARR_copyOf 24 = .ok (.astore_n 3, 1) := by decide +kernel
theorem d_ARR_copyOf_25 : decode c_ARR_copyOf 25 = .ok (.aload_n 0, 1) := by decide +kernel
theorem d_ARR_copyOf_26 : decode c_ARR_copyOf 26 = .ok (.iconst 0, 1) := by decide +kernel
theorem d_ARR_copyOf_27 : decode c_ARR_copyOf 27 = .ok (.aload_n 3, 1) := by decide +kernel
theorem d_ARR_copyOf_28 : decode c_ARR_copyOf 28 = .ok (.iconst 0, 1) := by decide +kernel
theorem d_ARR_copyOf_29 : decode c_ARR_copyOf 29 = .ok (.aload_n 0, 1) := by decide +kernel
theorem d_ARR_copyOf_30 : decode c_ARR_copyOf 30 = .ok (.arraylength, 1) := by decide +kernel
theorem d_ARR_copyOf_31 : decode c_ARR_copyOf 31 = .ok (.iload_n 1, 1) := by decide +kernel
theorem d_ARR_copyOf_32 : decode c_ARR_copyOf 32 = .ok (.invokestatic 304, 3) := by decide +kernel
theorem d_ARR_copyOf_35 : decode c_ARR_copyOf 35 = .ok (.invokestatic 150, 3) := by decide +kernel
theorem d_ARR_copyOf_38 : decode c_ARR_copyOf 38 = .ok (.aload_n 3, 1) := by decide +kernel
theorem d_ARR_copyOf_39 : decode c_ARR_copyOf 39 = .ok (.areturn, 1) := by decide +kernel
abbrev c_ARR_copyOf2 : ByteArray := prog_31_method_119_code
def y_ARR_copyOf2 : MethodName := ⟨"java/util/Arrays", "copyOf", "([Ljava/lang/Object;I)[Ljava/lang/Object;"⟩
theorem ok_ARR_copyOf2 : sOK y_ARR_copyOf2 c_ARR_copyOf2 2 (some (.array (.object "java/lang/Object"))) 2 := ⟨kw_572, kw_571, kw_7, by decide +kernel⟩
theorem d_ARR_copyOf2_0 : decode c_ARR_copyOf2 0 = .ok (.aload_n 0, 1) := by decide +kernel
theorem d_ARR_copyOf2_1 : decode c_ARR_copyOf2 1 = .ok (.iload_n 1, 1) := by decide +kernel
theorem d_ARR_copyOf2_2 : decode c_ARR_copyOf2 2 = .ok (.aload_n 0, 1) := by decide +kernel
theorem d_ARR_copyOf2_3 : decode c_ARR_copyOf2 3 = .ok (.invokevirtual 86, 3) := by decide +kernel
theorem d_ARR_copyOf2_6 : decode c_ARR_copyOf2 6 = .ok (.invokestatic 300, 3) := by decide +kernel
theorem d_ARR_copyOf2_9 : decode c_ARR_copyOf2 9 = .ok (.areturn, 1) := by decide +kernel
abbrev c_AL_grow : ByteArray := prog_30_method_6_code
def y_AL_grow : MethodName := ⟨"java/util/ArrayList", "grow", "(I)[Ljava/lang/Object;"⟩
theorem ok_AL_grow : vOK y_AL_grow c_AL_grow 4 (some (.array (.object "java/lang/Object"))) 1 := ⟨kw_561, kw_560, ks_32, kw_4, by decide +kernel⟩
theorem d_AL_grow_0 : decode c_AL_grow 0 = .ok (.aload_n 0, 1) := by decide +kernel
theorem d_AL_grow_1 : decode c_AL_grow 1 = .ok (.getfield 9, 3) := by decide +kernel
theorem d_AL_grow_4 : decode c_AL_grow 4 = .ok (.arraylength, 1) := by decide +kernel
theorem d_AL_grow_5 : decode c_AL_grow 5 = .ok (.istore_n 2, 1) := by decide +kernel
theorem d_AL_grow_6 : decode c_AL_grow 6 = .ok (.iload_n 2, 1) := by decide +kernel
theorem d_AL_grow_7 : decode c_AL_grow 7 = .ok (.ifCond .gt 13, 3) := by decide +kernel
theorem d_AL_grow_10 : decode c_AL_grow 10 = .ok (.aload_n 0, 1) := by decide +kernel
theorem d_AL_grow_11 : decode c_AL_grow 11 = .ok (.getfield 9, 3) := by decide +kernel
theorem d_AL_grow_14 : decode c_AL_grow 14 = .ok (.getstatic 39, 3) := by decide +kernel
theorem d_AL_grow_17 : decode c_AL_grow 17 = .ok (.if_acmp .eq 28, 3) := by decide +kernel
theorem d_AL_grow_20 : decode c_AL_grow 20 = .ok (.iload_n 2, 1) := by decide +kernel
theorem d_AL_grow_21 : decode c_AL_grow 21 = .ok (.iload_n 1, 1) := by decide +kernel
theorem d_AL_grow_22 : decode c_AL_grow 22 = .ok (.iload_n 2, 1) := by decide +kernel
theorem d_AL_grow_23 : decode c_AL_grow 23 = .ok (.isub, 1) := by decide +kernel
theorem d_AL_grow_24 : decode c_AL_grow 24 = .ok (.iload_n 2, 1) := by decide +kernel
theorem d_AL_grow_25 : decode c_AL_grow 25 = .ok (.iconst 1, 1) := by decide +kernel
theorem d_AL_grow_26 : decode c_AL_grow 26 = .ok (.ishr, 1) := by decide +kernel
theorem d_AL_grow_27 : decode c_AL_grow 27 = .ok (.invokestatic 73, 3) := by decide +kernel
theorem d_AL_grow_30 : decode c_AL_grow 30 = .ok (.istore_n 3, 1) := by decide +kernel
theorem d_AL_grow_31 : decode c_AL_grow 31 = .ok (.aload_n 0, 1) := by decide +kernel
theorem d_AL_grow_32 : decode c_AL_grow 32 = .ok (.aload_n 0, 1) := by decide +kernel
theorem d_AL_grow_33 : decode c_AL_grow 33 = .ok (.getfield 9, 3) := by decide +kernel
theorem d_AL_grow_36 : decode c_AL_grow 36 = .ok (.iload_n 3, 1) := by decide +kernel
theorem d_AL_grow_37 : decode c_AL_grow 37 = .ok (.invokestatic 66, 3) := by decide +kernel
theorem d_AL_grow_40 : decode c_AL_grow 40 = .ok (.dup_x1, 1) := by decide +kernel
theorem d_AL_grow_41 : decode c_AL_grow 41 = .ok (.putfield 9, 3) := by decide +kernel
theorem d_AL_grow_44 : decode c_AL_grow 44 = .ok (.areturn, 1) := by decide +kernel
theorem d_AL_grow_45 : decode c_AL_grow 45 = .ok (.aload_n 0, 1) := by decide +kernel
theorem d_AL_grow_46 : decode c_AL_grow 46 = .ok (.bipush 10, 2) := by decide +kernel
theorem d_AL_grow_48 : decode c_AL_grow 48 = .ok (.iload_n 1, 1) := by decide +kernel
theorem d_AL_grow_49 : decode c_AL_grow 49 = .ok (.invokestatic 79, 3) := by decide +kernel
theorem d_AL_grow_52 : decode c_AL_grow 52 = .ok (.anewarray 7, 3) := by decide +kernel
theorem d_AL_grow_55 : decode c_AL_grow 55 = .ok (.dup_x1, 1) := by decide +kernel
theorem d_AL_grow_56 : decode c_AL_grow 56 = .ok (.putfield 9, 3) := by decide +kernel
theorem d_AL_grow_59 : decode c_AL_grow 59 = .ok (.areturn, 1) := by decide +kernel
abbrev c_AL_grow2 : ByteArray := prog_30_method_7_code
def y_AL_grow2 : MethodName := ⟨"java/util/ArrayList", "grow", "()[Ljava/lang/Object;"⟩
theorem ok_AL_grow2 : vOK y_AL_grow2 c_AL_grow2 1 (some (.array (.object "java/lang/Object"))) 0 := ⟨kw_557, kw_556, ks_31, kw_4, by decide +kernel⟩
theorem d_AL_grow2_0 : decode c_AL_grow2 0 = .ok (.aload_n 0, 1) := by decide +kernel
theorem d_AL_grow2_1 : decode c_AL_grow2 1 = .ok (.aload_n 0, 1) := by decide +kernel
theorem d_AL_grow2_2 : decode c_AL_grow2 2 = .ok (.getfield 48, 3) := by decide +kernel
theorem d_AL_grow2_5 : decode c_AL_grow2 5 = .ok (.iconst 1, 1) := by decide +kernel
theorem d_AL_grow2_6 : decode c_AL_grow2 6 = .ok (.iadd, 1) := by decide +kernel
theorem d_AL_grow2_7 : decode c_AL_grow2 7 = .ok (.invokevirtual 69, 3) := by decide +kernel
theorem d_AL_grow2_10 : decode c_AL_grow2 10 = .ok (.areturn, 1) := by decide +kernel
abbrev c_AL_add : ByteArray := prog_30_method_24_code
def y_AL_add : MethodName := ⟨"java/util/ArrayList", "add", "(Ljava/lang/Object;[Ljava/lang/Object;I)V"⟩
theorem ok_AL_add : vOK y_AL_add c_AL_add 4 none 3 := ⟨kw_553, kw_552, ks_30, kw_4, by decide +kernel⟩
theorem d_AL_add_0 : decode c_AL_add 0 = .ok (.iload_n 3, 1) := by decide +kernel
theorem d_AL_add_1 : decode c_AL_add 1 = .ok (.aload_n 2, 1) := by decide +kernel
theorem d_AL_add_2 : decode c_AL_add 2 = .ok (.arraylength, 1) := by decide +kernel
theorem d_AL_add_3 : decode c_AL_add 3 = .ok (.if_icmp .ne 8, 3) := by decide +kernel
theorem d_AL_add_6 : decode c_AL_add 6 = .ok (.aload_n 0, 1) := by decide +kernel
theorem d_AL_add_7 : decode c_AL_add 7 = .ok (.invokevirtual 129, 3) := by decide +kernel
theorem d_AL_add_10 : decode c_AL_add 10 = .ok (.astore_n 2, 1) := by decide +kernel
theorem d_AL_add_11 : decode c_AL_add 11 = .ok (.aload_n 2, 1) := by decide +kernel
theorem d_AL_add_12 : decode c_AL_add 12 = .ok (.iload_n 3, 1) := by decide +kernel
theorem d_AL_add_13 : decode c_AL_add 13 = .ok (.aload_n 1, 1) := by decide +kernel
theorem d_AL_add_14 : decode c_AL_add 14 = .ok (.aastore, 1) := by decide +kernel
theorem d_AL_add_15 : decode c_AL_add 15 = .ok (.aload_n 0, 1) := by decide +kernel
theorem d_AL_add_16 : decode c_AL_add 16 = .ok (.iload_n 3, 1) := by decide +kernel
theorem d_AL_add_17 : decode c_AL_add 17 = .ok (.iconst 1, 1) := by decide +kernel
theorem d_AL_add_18 : decode c_AL_add 18 = .ok (.iadd, 1) := by decide +kernel
theorem d_AL_add_19 : decode c_AL_add 19 = .ok (.putfield 48, 3) := by decide +kernel
theorem d_AL_add_22 : decode c_AL_add 22 = .ok (.return_, 1) := by decide +kernel
abbrev c_AL_add2 : ByteArray := prog_30_method_25_code
def y_AL_add2 : MethodName := ⟨"java/util/ArrayList", "add", "(Ljava/lang/Object;)Z"⟩
theorem ok_AL_add2 : vOK y_AL_add2 c_AL_add2 2 (some .boolean) 1 := ⟨kw_549, kw_547, kw_548, kw_4, by decide +kernel⟩
theorem d_AL_add2_0 : decode c_AL_add2 0 = .ok (.aload_n 0, 1) := by decide +kernel
theorem d_AL_add2_1 : decode c_AL_add2 1 = .ok (.dup, 1) := by decide +kernel
theorem d_AL_add2_2 : decode c_AL_add2 2 = .ok (.getfield 63, 3) := by decide +kernel
theorem d_AL_add2_5 : decode c_AL_add2 5 = .ok (.iconst 1, 1) := by decide +kernel
theorem d_AL_add2_6 : decode c_AL_add2 6 = .ok (.iadd, 1) := by decide +kernel
theorem d_AL_add2_7 : decode c_AL_add2 7 = .ok (.putfield 63, 3) := by decide +kernel
theorem d_AL_add2_10 : decode c_AL_add2 10 = .ok (.aload_n 0, 1) := by decide +kernel
theorem d_AL_add2_11 : decode c_AL_add2 11 = .ok (.aload_n 1, 1) := by decide +kernel
theorem d_AL_add2_12 : decode c_AL_add2 12 = .ok (.aload_n 0, 1) := by decide +kernel
theorem d_AL_add2_13 : decode c_AL_add2 13 = .ok (.getfield 9, 3) := by decide +kernel
theorem d_AL_add2_16 : decode c_AL_add2 16 = .ok (.aload_n 0, 1) := by decide +kernel
theorem d_AL_add2_17 : decode c_AL_add2 17 = .ok (.getfield 48, 3) := by decide +kernel
theorem d_AL_add2_20 : decode c_AL_add2 20 = .ok (.invokevirtual 131, 3) := by decide +kernel
theorem d_AL_add2_23 : decode c_AL_add2 23 = .ok (.iconst 1, 1) := by decide +kernel
theorem d_AL_add2_24 : decode c_AL_add2 24 = .ok (.ireturn, 1) := by decide +kernel
abbrev c_AL_rangeCheckForAdd : ByteArray := prog_30_method_45_code
def y_AL_rangeCheckForAdd : MethodName := ⟨"java/util/ArrayList", "rangeCheckForAdd", "(I)V"⟩
theorem ok_AL_rangeCheckForAdd : vOK y_AL_rangeCheckForAdd c_AL_rangeCheckForAdd 2 none 1 := ⟨kw_747, kw_746, ks_38, kw_4, by decide +kernel⟩
theorem d_AL_rangeCheckForAdd_0 : decode c_AL_rangeCheckForAdd 0 = .ok (.iload_n 1, 1) := by decide +kernel
theorem d_AL_rangeCheckForAdd_1 : decode c_AL_rangeCheckForAdd 1 = .ok (.aload_n 0, 1) := by decide +kernel
theorem d_AL_rangeCheckForAdd_2 : decode c_AL_rangeCheckForAdd 2 = .ok (.getfield 48, 3) := by decide +kernel
theorem d_AL_rangeCheckForAdd_5 : decode c_AL_rangeCheckForAdd 5 = .ok (.if_icmp .gt 7, 3) := by decide +kernel
theorem d_AL_rangeCheckForAdd_8 : decode c_AL_rangeCheckForAdd 8 = .ok (.iload_n 1, 1) := by decide +kernel
theorem d_AL_rangeCheckForAdd_9 : decode c_AL_rangeCheckForAdd 9 = .ok (.ifCond .ge 16, 3) := by decide +kernel
theorem d_AL_rangeCheckForAdd_12 : decode c_AL_rangeCheckForAdd 12 = .ok (.new 187, 3) := by decide +kernel
theorem d_AL_rangeCheckForAdd_15 : decode c_AL_rangeCheckForAdd 15 = .ok (.dup, 1) := by decide +kernel
theorem d_AL_rangeCheckForAdd_16 : decode c_AL_rangeCheckForAdd 16 = .ok (.aload_n 0, 1) := by decide +kernel
theorem d_AL_rangeCheckForAdd_17 : decode c_AL_rangeCheckForAdd 17 = .ok (.iload_n 1, 1) := by decide +kernel
theorem d_AL_rangeCheckForAdd_18 : decode c_AL_rangeCheckForAdd 18 = .ok (.invokevirtual 198, 3) := by decide +kernel
theorem d_AL_rangeCheckForAdd_21 : decode c_AL_rangeCheckForAdd 21 = .ok (.invokespecial 193, 3) := by decide +kernel
theorem d_AL_rangeCheckForAdd_24 : decode c_AL_rangeCheckForAdd 24 = .ok (.athrow, 1) := by decide +kernel
theorem d_AL_rangeCheckForAdd_25 : decode c_AL_rangeCheckForAdd 25 = .ok (.return_, 1) := by decide +kernel
abbrev c_AL_add3 : ByteArray := prog_30_method_26_code
def y_AL_add3 : MethodName := ⟨"java/util/ArrayList", "add", "(ILjava/lang/Object;)V"⟩
theorem ok_AL_add3 : vOK y_AL_add3 c_AL_add3 5 none 2 := ⟨kw_743, kw_741, kw_742, kw_4, by decide +kernel⟩
theorem d_AL_add3_0 : decode c_AL_add3 0 = .ok (.aload_n 0, 1) := by decide +kernel
theorem d_AL_add3_1 : decode c_AL_add3 1 = .ok (.iload_n 1, 1) := by decide +kernel
theorem d_AL_add3_2 : decode c_AL_add3 2 = .ok (.invokevirtual 135, 3) := by decide +kernel
theorem d_AL_add3_5 : decode c_AL_add3 5 = .ok (.aload_n 0, 1) := by decide +kernel
theorem d_AL_add3_6 : decode c_AL_add3 6 = .ok (.dup, 1) := by decide +kernel
theorem d_AL_add3_7 : decode c_AL_add3 7 = .ok (.getfield 63, 3) := by decide +kernel
theorem d_AL_add3_10 : decode c_AL_add3 10 = .ok (.iconst 1, 1) := by decide +kernel
theorem d_AL_add3_11 : decode c_AL_add3 11 = .ok (.iadd, 1) := by decide +kernel
theorem d_AL_add3_12 : decode c_AL_add3 12 = .ok (.putfield 63, 3) := by decide +kernel
theorem d_AL_add3_15 : decode c_AL_add3 15 = .ok (.aload_n 0, 1) := by decide +kernel
theorem d_AL_add3_16 : decode c_AL_add3 16 = .ok (.getfield 48, 3) := by decide +kernel
theorem d_AL_add3_19 : decode c_AL_add3 19 = .ok (.dup, 1) := by decide +kernel
theorem d_AL_add3_20 : decode c_AL_add3 20 = .ok (.istore_n 3, 1) := by decide +kernel
theorem d_AL_add3_21 : decode c_AL_add3 21 = .ok (.aload_n 0, 1) := by decide +kernel
theorem d_AL_add3_22 : decode c_AL_add3 22 = .ok (.getfield 9, 3) := by decide +kernel
theorem d_AL_add3_25 : decode c_AL_add3 25 = .ok (.dup, 1) := by decide +kernel
theorem d_AL_add3_26 : decode c_AL_add3 26 = .ok (.astore 4, 2) := by decide +kernel
theorem d_AL_add3_28 : decode c_AL_add3 28 = .ok (.arraylength, 1) := by decide +kernel
theorem d_AL_add3_29 : decode c_AL_add3 29 = .ok (.if_icmp .ne 9, 3) := by decide +kernel
theorem d_AL_add3_32 : decode c_AL_add3 32 = .ok (.aload_n 0, 1) := by decide +kernel
theorem d_AL_add3_33 : decode c_AL_add3 33 = .ok (.invokevirtual 129, 3) := by decide +kernel
theorem d_AL_add3_36 : decode c_AL_add3 36 = .ok (.astore 4, 2) := by decide +kernel
theorem d_AL_add3_38 : decode c_AL_add3 38 = .ok (.aload 4, 2) := by decide +kernel
theorem d_AL_add3_40 : decode c_AL_add3 40 = .ok (.iload_n 1, 1) := by decide +kernel
theorem d_AL_add3_41 : decode c_AL_add3 41 = .ok (.aload 4, 2) := by decide +kernel
theorem d_AL_add3_43 : decode c_AL_add3 43 = .ok (.iload_n 1, 1) := by decide +kernel
theorem d_AL_add3_44 : decode c_AL_add3 44 = .ok (.iconst 1, 1) := by decide +kernel
theorem d_AL_add3_45 : decode c_AL_add3 45 = .ok (.iadd, 1) := by decide +kernel
theorem d_AL_add3_46 : decode c_AL_add3 46 = .ok (.iload_n 3, 1) := by decide +kernel
theorem d_AL_add3_47 : decode c_AL_add3 47 = .ok (.iload_n 1, 1) := by decide +kernel
theorem d_AL_add3_48 : decode c_AL_add3 48 = .ok (.isub, 1) := by decide +kernel
theorem d_AL_add3_49 : decode c_AL_add3 49 = .ok (.invokestatic 112, 3) := by decide +kernel
theorem d_AL_add3_52 : decode c_AL_add3 52 = .ok (.aload 4, 2) := by decide +kernel
theorem d_AL_add3_54 : decode c_AL_add3 54 = .ok (.iload_n 1, 1) := by decide +kernel
theorem d_AL_add3_55 : decode c_AL_add3 55 = .ok (.aload_n 2, 1) := by decide +kernel
theorem d_AL_add3_56 : decode c_AL_add3 56 = .ok (.aastore, 1) := by decide +kernel
theorem d_AL_add3_57 : decode c_AL_add3 57 = .ok (.aload_n 0, 1) := by decide +kernel
theorem d_AL_add3_58 : decode c_AL_add3 58 = .ok (.iload_n 3, 1) := by decide +kernel
theorem d_AL_add3_59 : decode c_AL_add3 59 = .ok (.iconst 1, 1) := by decide +kernel
theorem d_AL_add3_60 : decode c_AL_add3 60 = .ok (.iadd, 1) := by decide +kernel
theorem d_AL_add3_61 : decode c_AL_add3 61 = .ok (.putfield 48, 3) := by decide +kernel
theorem d_AL_add3_64 : decode c_AL_add3 64 = .ok (.return_, 1) := by decide +kernel
abbrev c_ARR_fill : ByteArray := prog_31_method_103_code
def y_ARR_fill : MethodName := ⟨"java/util/Arrays", "fill", "([II)V"⟩
theorem ok_ARR_fill : sOK y_ARR_fill c_ARR_fill 4 none 2 := ⟨kw_93, kw_92, kw_7, by decide +kernel⟩
theorem d_ARR_fill_0 : decode c_ARR_fill 0 = .ok (.iconst 0, 1) := by decide +kernel
theorem d_ARR_fill_1 : decode c_ARR_fill 1 = .ok (.istore_n 2, 1) := by decide +kernel
theorem d_ARR_fill_2 : decode c_ARR_fill 2 = .ok (.aload_n 0, 1) := by decide +kernel
theorem d_ARR_fill_3 : decode c_ARR_fill 3 = .ok (.arraylength, 1) := by decide +kernel
theorem d_ARR_fill_4 : decode c_ARR_fill 4 = .ok (.istore_n 3, 1) := by decide +kernel
theorem d_ARR_fill_5 : decode c_ARR_fill 5 = .ok (.iload_n 2, 1) := by decide +kernel
theorem d_ARR_fill_6 : decode c_ARR_fill 6 = .ok (.iload_n 3, 1) := by decide +kernel
theorem d_ARR_fill_7 : decode c_ARR_fill 7 = .ok (.if_icmp .ge 13, 3) := by decide +kernel
theorem d_ARR_fill_10 : decode c_ARR_fill 10 = .ok (.aload_n 0, 1) := by decide +kernel
theorem d_ARR_fill_11 : decode c_ARR_fill 11 = .ok (.iload_n 2, 1) := by decide +kernel
theorem d_ARR_fill_12 : decode c_ARR_fill 12 = .ok (.iload_n 1, 1) := by decide +kernel
theorem d_ARR_fill_13 : decode c_ARR_fill 13 = .ok (.iastore, 1) := by decide +kernel
theorem d_ARR_fill_14 : decode c_ARR_fill 14 = .ok (.iinc 2 1, 3) := by decide +kernel
theorem d_ARR_fill_17 : decode c_ARR_fill 17 = .ok (.goto (-12), 3) := by decide +kernel
theorem d_ARR_fill_20 : decode c_ARR_fill 20 = .ok (.return_, 1) := by decide +kernel
