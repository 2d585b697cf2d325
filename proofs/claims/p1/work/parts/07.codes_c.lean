/-! Codes and what decodes from them. Laid by mkbase.py. -/
abbrev b_Object_init : ByteArray := object_method_1_code
abbrev y_Object_init : MethodName := ⟨"java/lang/Object", "<init>", "()V"⟩
theorem d_Object_init_0 : decode b_Object_init 0 = .ok (.return_, 1) := by decide +kernel
abbrev b_ArrayList_init : ByteArray := prog_39_method_2_code
abbrev y_ArrayList_init : MethodName := ⟨"java/util/ArrayList", "<init>", "()V"⟩
theorem d_ArrayList_init_0 : decode b_ArrayList_init 0 = .ok (.aload_n 0, 1) := by decide +kernel
theorem d_ArrayList_init_1 : decode b_ArrayList_init 1 = .ok (.invokespecial 1, 3) := by decide +kernel
theorem d_ArrayList_init_4 : decode b_ArrayList_init 4 = .ok (.aload_n 0, 1) := by decide +kernel
theorem d_ArrayList_init_5 : decode b_ArrayList_init 5 = .ok (.getstatic 39, 3) := by decide +kernel
theorem d_ArrayList_init_8 : decode b_ArrayList_init 8 = .ok (.putfield 9, 3) := by decide +kernel
theorem d_ArrayList_init_11 : decode b_ArrayList_init 11 = .ok (.return_, 1) := by decide +kernel
abbrev b_AbstractList_init : ByteArray := prog_38_method_1_code
abbrev y_AbstractList_init : MethodName := ⟨"java/util/AbstractList", "<init>", "()V"⟩
theorem d_AbstractList_init_0 : decode b_AbstractList_init 0 = .ok (.aload_n 0, 1) := by decide +kernel
theorem d_AbstractList_init_1 : decode b_AbstractList_init 1 = .ok (.invokespecial 1, 3) := by decide +kernel
theorem d_AbstractList_init_4 : decode b_AbstractList_init 4 = .ok (.aload_n 0, 1) := by decide +kernel
theorem d_AbstractList_init_5 : decode b_AbstractList_init 5 = .ok (.iconst 0, 1) := by decide +kernel
theorem d_AbstractList_init_6 : decode b_AbstractList_init 6 = .ok (.putfield 7, 3) := by decide +kernel
theorem d_AbstractList_init_9 : decode b_AbstractList_init 9 = .ok (.return_, 1) := by decide +kernel
abbrev b_AbstractCollection_init : ByteArray := prog_37_method_1_code
abbrev y_AbstractCollection_init : MethodName := ⟨"java/util/AbstractCollection", "<init>", "()V"⟩
theorem d_AbstractCollection_init_0 : decode b_AbstractCollection_init 0 = .ok (.aload_n 0, 1) := by decide +kernel
theorem d_AbstractCollection_init_1 : decode b_AbstractCollection_init 1 = .ok (.invokespecial 1, 3) := by decide +kernel
theorem d_AbstractCollection_init_4 : decode b_AbstractCollection_init 4 = .ok (.return_, 1) := by decide +kernel
abbrev b_Throwable_init : ByteArray := prog_35_method_1_code
abbrev y_Throwable_init : MethodName := ⟨"java/lang/Throwable", "<init>", "()V"⟩
theorem d_Throwable_init_0 : decode b_Throwable_init 0 = .ok (.aload_n 0, 1) := by decide +kernel
theorem d_Throwable_init_1 : decode b_Throwable_init 1 = .ok (.invokespecial 1, 3) := by decide +kernel
theorem d_Throwable_init_4 : decode b_Throwable_init 4 = .ok (.aload_n 0, 1) := by decide +kernel
theorem d_Throwable_init_5 : decode b_Throwable_init 5 = .ok (.aload_n 0, 1) := by decide +kernel
theorem d_Throwable_init_6 : decode b_Throwable_init 6 = .ok (.putfield 7, 3) := by decide +kernel
theorem d_Throwable_init_9 : decode b_Throwable_init 9 = .ok (.aload_n 0, 1) := by decide +kernel
theorem d_Throwable_init_10 : decode b_Throwable_init 10 = .ok (.getstatic 13, 3) := by decide +kernel
theorem d_Throwable_init_13 : decode b_Throwable_init 13 = .ok (.putfield 17, 3) := by decide +kernel
theorem d_Throwable_init_16 : decode b_Throwable_init 16 = .ok (.aload_n 0, 1) := by decide +kernel
theorem d_Throwable_init_17 : decode b_Throwable_init 17 = .ok (.getstatic 20, 3) := by decide +kernel
theorem d_Throwable_init_20 : decode b_Throwable_init 20 = .ok (.putfield 24, 3) := by decide +kernel
theorem d_Throwable_init_23 : decode b_Throwable_init 23 = .ok (.aload_n 0, 1) := by decide +kernel
theorem d_Throwable_init_24 : decode b_Throwable_init 24 = .ok (.invokevirtual 27, 3) := by decide +kernel
theorem d_Throwable_init_27 : decode b_Throwable_init 27 = .ok (.pop, 1) := by decide +kernel
theorem d_Throwable_init_28 : decode b_Throwable_init 28 = .ok (.return_, 1) := by decide +kernel
abbrev b_Throwable_fillInStackTrace : ByteArray := prog_35_method_18_code
abbrev y_Throwable_fillInStackTrace : MethodName := ⟨"java/lang/Throwable", "fillInStackTrace", "()Ljava/lang/Throwable;"⟩
theorem d_Throwable_fillInStackTrace_0 : decode b_Throwable_fillInStackTrace 0 = .ok (.aload_n 0, 1) := by decide +kernel
theorem d_Throwable_fillInStackTrace_1 : decode b_Throwable_fillInStackTrace 1 = .ok (.getfield 17, 3) := by decide +kernel
theorem d_Throwable_fillInStackTrace_4 : decode b_Throwable_fillInStackTrace 4 = .ok (.ifnonnull 10, 3) := by decide +kernel
theorem d_Throwable_fillInStackTrace_7 : decode b_Throwable_fillInStackTrace 7 = .ok (.aload_n 0, 1) := by decide +kernel
theorem d_Throwable_fillInStackTrace_8 : decode b_Throwable_fillInStackTrace 8 = .ok (.getfield 198, 3) := by decide +kernel
theorem d_Throwable_fillInStackTrace_11 : decode b_Throwable_fillInStackTrace 11 = .ok (.ifnull 16, 3) := by decide +kernel
theorem d_Throwable_fillInStackTrace_14 : decode b_Throwable_fillInStackTrace 14 = .ok (.aload_n 0, 1) := by decide +kernel
theorem d_Throwable_fillInStackTrace_15 : decode b_Throwable_fillInStackTrace 15 = .ok (.iconst 0, 1) := by decide +kernel
theorem d_Throwable_fillInStackTrace_16 : decode b_Throwable_fillInStackTrace 16 = .ok (.invokevirtual 202, 3) := by decide +kernel
theorem d_Throwable_fillInStackTrace_19 : decode b_Throwable_fillInStackTrace 19 = .ok (.pop, 1) := by decide +kernel
theorem d_Throwable_fillInStackTrace_20 : decode b_Throwable_fillInStackTrace 20 = .ok (.aload_n 0, 1) := by decide +kernel
theorem d_Throwable_fillInStackTrace_21 : decode b_Throwable_fillInStackTrace 21 = .ok (.getstatic 13, 3) := by decide +kernel
theorem d_Throwable_fillInStackTrace_24 : decode b_Throwable_fillInStackTrace 24 = .ok (.putfield 17, 3) := by decide +kernel
theorem d_Throwable_fillInStackTrace_27 : decode b_Throwable_fillInStackTrace 27 = .ok (.aload_n 0, 1) := by decide +kernel
theorem d_Throwable_fillInStackTrace_28 : decode b_Throwable_fillInStackTrace 28 = .ok (.areturn, 1) := by decide +kernel
abbrev b_IllegalStateException_init : ByteArray := prog_23_method_1_code
abbrev y_IllegalStateException_init : MethodName := ⟨"java/lang/IllegalStateException", "<init>", "()V"⟩
theorem d_IllegalStateException_init_0 : decode b_IllegalStateException_init 0 = .ok (.aload_n 0, 1) := by decide +kernel
theorem d_IllegalStateException_init_1 : decode b_IllegalStateException_init 1 = .ok (.invokespecial 1, 3) := by decide +kernel
theorem d_IllegalStateException_init_4 : decode b_IllegalStateException_init 4 = .ok (.return_, 1) := by decide +kernel
abbrev b_RuntimeException_init : ByteArray := prog_30_method_1_code
abbrev y_RuntimeException_init : MethodName := ⟨"java/lang/RuntimeException", "<init>", "()V"⟩
theorem d_RuntimeException_init_0 : decode b_RuntimeException_init 0 = .ok (.aload_n 0, 1) := by decide +kernel
theorem d_RuntimeException_init_1 : decode b_RuntimeException_init 1 = .ok (.invokespecial 1, 3) := by decide +kernel
theorem d_RuntimeException_init_4 : decode b_RuntimeException_init 4 = .ok (.return_, 1) := by decide +kernel
abbrev b_Exception_init : ByteArray := prog_21_method_1_code
abbrev y_Exception_init : MethodName := ⟨"java/lang/Exception", "<init>", "()V"⟩
theorem d_Exception_init_0 : decode b_Exception_init 0 = .ok (.aload_n 0, 1) := by decide +kernel
theorem d_Exception_init_1 : decode b_Exception_init 1 = .ok (.invokespecial 1, 3) := by decide +kernel
theorem d_Exception_init_4 : decode b_Exception_init 4 = .ok (.return_, 1) := by decide +kernel
abbrev b_Arrays_copyOf_BI : ByteArray := prog_40_method_121_code
abbrev y_Arrays_copyOf_BI : MethodName := ⟨"java/util/Arrays", "copyOf", "([BI)[B"⟩
theorem d_Arrays_copyOf_BI_0 : decode b_Arrays_copyOf_BI 0 = .ok (.iload_n 1, 1) := by decide +kernel
theorem d_Arrays_copyOf_BI_1 : decode b_Arrays_copyOf_BI 1 = .ok (.aload_n 0, 1) := by decide +kernel
theorem d_Arrays_copyOf_BI_2 : decode b_Arrays_copyOf_BI 2 = .ok (.arraylength, 1) := by decide +kernel
theorem d_Arrays_copyOf_BI_3 : decode b_Arrays_copyOf_BI 3 = .ok (.if_icmp .ne 11, 3) := by decide +kernel
theorem d_Arrays_copyOf_BI_6 : decode b_Arrays_copyOf_BI 6 = .ok (.aload_n 0, 1) := by decide +kernel
theorem d_Arrays_copyOf_BI_7 : decode b_Arrays_copyOf_BI 7 = .ok (.invokevirtual 310, 3) := by decide +kernel
theorem d_Arrays_copyOf_BI_10 : decode b_Arrays_copyOf_BI 10 = .ok (.checkcast 311, 3) := by decide +kernel
theorem d_Arrays_copyOf_BI_13 : decode b_Arrays_copyOf_BI 13 = .ok (.areturn, 1) := by decide +kernel
theorem d_Arrays_copyOf_BI_14 : decode b_Arrays_copyOf_BI 14 = .ok (.iload_n 1, 1) := by decide +kernel
theorem d_Arrays_copyOf_BI_15 : decode b_Arrays_copyOf_BI 15 = .ok (.newarray .byte, 2) := by decide +kernel
theorem d_Arrays_copyOf_BI_17 : decode b_Arrays_copyOf_BI 17 = .ok (.astore_n 2, 1) := by decide +kernel
theorem d_Arrays_copyOf_BI_18 : decode b_Arrays_copyOf_BI 18 = .ok (.aload_n 0, 1) := by decide +kernel
theorem d_Arrays_copyOf_BI_19 : decode b_Arrays_copyOf_BI 19 = .ok (.iconst 0, 1) := by decide +kernel
theorem d_Arrays_copyOf_BI_20 : decode b_Arrays_copyOf_BI 20 = .ok (.aload_n 2, 1) := by decide +kernel
theorem d_Arrays_copyOf_BI_21 : decode b_Arrays_copyOf_BI 21 = .ok (.iconst 0, 1) := by decide +kernel
theorem d_Arrays_copyOf_BI_22 : decode b_Arrays_copyOf_BI 22 = .ok (.aload_n 0, 1) := by decide +kernel
theorem d_Arrays_copyOf_BI_23 : decode b_Arrays_copyOf_BI 23 = .ok (.arraylength, 1) := by decide +kernel
theorem d_Arrays_copyOf_BI_24 : decode b_Arrays_copyOf_BI 24 = .ok (.iload_n 1, 1) := by decide +kernel
theorem d_Arrays_copyOf_BI_25 : decode b_Arrays_copyOf_BI 25 = .ok (.invokestatic 304, 3) := by decide +kernel
theorem d_Arrays_copyOf_BI_28 : decode b_Arrays_copyOf_BI 28 = .ok (.invokestatic 150, 3) := by decide +kernel
theorem d_Arrays_copyOf_BI_31 : decode b_Arrays_copyOf_BI 31 = .ok (.aload_n 2, 1) := by decide +kernel
theorem d_Arrays_copyOf_BI_32 : decode b_Arrays_copyOf_BI 32 = .ok (.areturn, 1) := by decide +kernel
abbrev b_Math_min : ByteArray := prog_28_method_69_code
abbrev y_Math_min : MethodName := ⟨"java/lang/Math", "min", "(II)I"⟩
theorem d_Math_min_0 : decode b_Math_min 0 = .ok (.iload_n 0, 1) := by decide +kernel
theorem d_Math_min_1 : decode b_Math_min 1 = .ok (.iload_n 1, 1) := by decide +kernel
theorem d_Math_min_2 : decode b_Math_min 2 = .ok (.if_icmp .gt 7, 3) := by decide +kernel
theorem d_Math_min_5 : decode b_Math_min 5 = .ok (.iload_n 0, 1) := by decide +kernel
theorem d_Math_min_6 : decode b_Math_min 6 = .ok (.goto 4, 3) := by decide +kernel
theorem d_Math_min_9 : decode b_Math_min 9 = .ok (.iload_n 1, 1) := by decide +kernel
theorem d_Math_min_10 : decode b_Math_min 10 = .ok (.ireturn, 1) := by decide +kernel
abbrev b_IllegalArgumentException_init : ByteArray := prog_22_method_1_code
abbrev y_IllegalArgumentException_init : MethodName := ⟨"java/lang/IllegalArgumentException", "<init>", "()V"⟩
theorem d_IllegalArgumentException_init_0 : decode b_IllegalArgumentException_init 0 = .ok (.aload_n 0, 1) := by decide +kernel
theorem d_IllegalArgumentException_init_1 : decode b_IllegalArgumentException_init 1 = .ok (.invokespecial 1, 3) := by decide +kernel
theorem d_IllegalArgumentException_init_4 : decode b_IllegalArgumentException_init 4 = .ok (.return_, 1) := by decide +kernel
abbrev b_ArrayList_clear : ByteArray := prog_39_method_40_code
abbrev y_ArrayList_clear : MethodName := ⟨"java/util/ArrayList", "clear", "()V"⟩
theorem d_ArrayList_clear_0 : decode b_ArrayList_clear 0 = .ok (.aload_n 0, 1) := by decide +kernel
theorem d_ArrayList_clear_1 : decode b_ArrayList_clear 1 = .ok (.dup, 1) := by decide +kernel
theorem d_ArrayList_clear_2 : decode b_ArrayList_clear 2 = .ok (.getfield 63, 3) := by decide +kernel
theorem d_ArrayList_clear_5 : decode b_ArrayList_clear 5 = .ok (.iconst 1, 1) := by decide +kernel
theorem d_ArrayList_clear_6 : decode b_ArrayList_clear 6 = .ok (.iadd, 1) := by decide +kernel
theorem d_ArrayList_clear_7 : decode b_ArrayList_clear 7 = .ok (.putfield 63, 3) := by decide +kernel
theorem d_ArrayList_clear_10 : decode b_ArrayList_clear 10 = .ok (.aload_n 0, 1) := by decide +kernel
theorem d_ArrayList_clear_11 : decode b_ArrayList_clear 11 = .ok (.getfield 9, 3) := by decide +kernel
theorem d_ArrayList_clear_14 : decode b_ArrayList_clear 14 = .ok (.astore_n 1, 1) := by decide +kernel
theorem d_ArrayList_clear_15 : decode b_ArrayList_clear 15 = .ok (.aload_n 0, 1) := by decide +kernel
theorem d_ArrayList_clear_16 : decode b_ArrayList_clear 16 = .ok (.getfield 48, 3) := by decide +kernel
theorem d_ArrayList_clear_19 : decode b_ArrayList_clear 19 = .ok (.istore_n 2, 1) := by decide +kernel
theorem d_ArrayList_clear_20 : decode b_ArrayList_clear 20 = .ok (.aload_n 0, 1) := by decide +kernel
theorem d_ArrayList_clear_21 : decode b_ArrayList_clear 21 = .ok (.iconst 0, 1) := by decide +kernel
theorem d_ArrayList_clear_22 : decode b_ArrayList_clear 22 = .ok (.dup_x1, 1) := by decide +kernel
theorem d_ArrayList_clear_23 : decode b_ArrayList_clear 23 = .ok (.putfield 48, 3) := by decide +kernel
theorem d_ArrayList_clear_26 : decode b_ArrayList_clear 26 = .ok (.istore_n 3, 1) := by decide +kernel
theorem d_ArrayList_clear_27 : decode b_ArrayList_clear 27 = .ok (.iload_n 3, 1) := by decide +kernel
theorem d_ArrayList_clear_28 : decode b_ArrayList_clear 28 = .ok (.iload_n 2, 1) := by decide +kernel
theorem d_ArrayList_clear_29 : decode b_ArrayList_clear 29 = .ok (.if_icmp .ge 13, 3) := by decide +kernel
theorem d_ArrayList_clear_32 : decode b_ArrayList_clear 32 = .ok (.aload_n 1, 1) := by decide +kernel
theorem d_ArrayList_clear_33 : decode b_ArrayList_clear 33 = .ok (.iload_n 3, 1) := by decide +kernel
theorem d_ArrayList_clear_34 : decode b_ArrayList_clear 34 = .ok (.aconst_null, 1) := by decide +kernel
theorem d_ArrayList_clear_35 : decode b_ArrayList_clear 35 = .ok (.aastore, 1) := by decide +kernel
theorem d_ArrayList_clear_36 : decode b_ArrayList_clear 36 = .ok (.iinc 3 1, 3) := by decide +kernel
theorem d_ArrayList_clear_39 : decode b_ArrayList_clear 39 = .ok (.goto (-12), 3) := by decide +kernel
theorem d_ArrayList_clear_42 : decode b_ArrayList_clear 42 = .ok (.return_, 1) := by decide +kernel
abbrev b_Math_max : ByteArray := prog_28_method_65_code
abbrev y_Math_max : MethodName := ⟨"java/lang/Math", "max", "(II)I"⟩
theorem d_Math_max_0 : decode b_Math_max 0 = .ok (.iload_n 0, 1) := by decide +kernel
theorem d_Math_max_1 : decode b_Math_max 1 = .ok (.iload_n 1, 1) := by decide +kernel
theorem d_Math_max_2 : decode b_Math_max 2 = .ok (.if_icmp .lt 7, 3) := by decide +kernel
theorem d_Math_max_5 : decode b_Math_max 5 = .ok (.iload_n 0, 1) := by decide +kernel
theorem d_Math_max_6 : decode b_Math_max 6 = .ok (.goto 4, 3) := by decide +kernel
theorem d_Math_max_9 : decode b_Math_max 9 = .ok (.iload_n 1, 1) := by decide +kernel
theorem d_Math_max_10 : decode b_Math_max 10 = .ok (.ireturn, 1) := by decide +kernel
abbrev b_UnsupportedOperationException_init : ByteArray := prog_36_method_1_code
abbrev y_UnsupportedOperationException_init : MethodName := ⟨"java/lang/UnsupportedOperationException", "<init>", "()V"⟩
theorem d_UnsupportedOperationException_init_0 : decode b_UnsupportedOperationException_init 0 = .ok (.aload_n 0, 1) := by decide +kernel
theorem d_UnsupportedOperationException_init_1 : decode b_UnsupportedOperationException_init 1 = .ok (.invokespecial 1, 3) := by decide +kernel
theorem d_UnsupportedOperationException_init_4 : decode b_UnsupportedOperationException_init 4 = .ok (.return_, 1) := by decide +kernel
abbrev b_ArrayList_size : ByteArray := prog_39_method_8_code
abbrev y_ArrayList_size : MethodName := ⟨"java/util/ArrayList", "size", "()I"⟩
theorem d_ArrayList_size_0 : decode b_ArrayList_size 0 = .ok (.aload_n 0, 1) := by decide +kernel
theorem d_ArrayList_size_1 : decode b_ArrayList_size 1 = .ok (.getfield 48, 3) := by decide +kernel
theorem d_ArrayList_size_4 : decode b_ArrayList_size 4 = .ok (.ireturn, 1) := by decide +kernel
abbrev b_ArrayList_get : ByteArray := prog_39_method_20_code
abbrev y_ArrayList_get : MethodName := ⟨"java/util/ArrayList", "get", "(I)Ljava/lang/Object;"⟩
theorem d_ArrayList_get_0 : decode b_ArrayList_get 0 = .ok (.iload_n 1, 1) := by decide +kernel
theorem d_ArrayList_get_1 : decode b_ArrayList_get 1 = .ok (.aload_n 0, 1) := by decide +kernel
theorem d_ArrayList_get_2 : decode b_ArrayList_get 2 = .ok (.getfield 48, 3) := by decide +kernel
theorem d_ArrayList_get_5 : decode b_ArrayList_get 5 = .ok (.invokestatic 118, 3) := by decide +kernel
theorem d_ArrayList_get_8 : decode b_ArrayList_get 8 = .ok (.pop, 1) := by decide +kernel
theorem d_ArrayList_get_9 : decode b_ArrayList_get 9 = .ok (.aload_n 0, 1) := by decide +kernel
theorem d_ArrayList_get_10 : decode b_ArrayList_get 10 = .ok (.iload_n 1, 1) := by decide +kernel
theorem d_ArrayList_get_11 : decode b_ArrayList_get 11 = .ok (.invokevirtual 123, 3) := by decide +kernel
theorem d_ArrayList_get_14 : decode b_ArrayList_get 14 = .ok (.areturn, 1) := by decide +kernel
abbrev b_Objects_checkIndex : ByteArray := prog_43_method_17_code
abbrev y_Objects_checkIndex : MethodName := ⟨"java/util/Objects", "checkIndex", "(II)I"⟩
theorem d_Objects_checkIndex_0 : decode b_Objects_checkIndex 0 = .ok (.iload_n 0, 1) := by decide +kernel
theorem d_Objects_checkIndex_1 : decode b_Objects_checkIndex 1 = .ok (.iload_n 1, 1) := by decide +kernel
theorem d_Objects_checkIndex_2 : decode b_Objects_checkIndex 2 = .ok (.aconst_null, 1) := by decide +kernel
theorem d_Objects_checkIndex_3 : decode b_Objects_checkIndex 3 = .ok (.invokestatic 105, 3) := by decide +kernel
theorem d_Objects_checkIndex_6 : decode b_Objects_checkIndex 6 = .ok (.ireturn, 1) := by decide +kernel
abbrev b_Preconditions_checkIndex : ByteArray := prog_47_method_11_code
abbrev y_Preconditions_checkIndex : MethodName := ⟨"jdk/internal/util/Preconditions", "checkIndex", "(IILjava/util/function/BiFunction;)I"⟩
theorem d_Preconditions_checkIndex_0 : decode b_Preconditions_checkIndex 0 = .ok (.iload_n 0, 1) := by decide +kernel
theorem d_Preconditions_checkIndex_1 : decode b_Preconditions_checkIndex 1 = .ok (.ifCond .lt 8, 3) := by decide +kernel
theorem d_Preconditions_checkIndex_4 : decode b_Preconditions_checkIndex 4 = .ok (.iload_n 0, 1) := by decide +kernel
theorem d_Preconditions_checkIndex_5 : decode b_Preconditions_checkIndex 5 = .ok (.iload_n 1, 1) := by decide +kernel
theorem d_Preconditions_checkIndex_6 : decode b_Preconditions_checkIndex 6 = .ok (.if_icmp .lt 10, 3) := by decide +kernel
theorem d_Preconditions_checkIndex_9 : decode b_Preconditions_checkIndex 9 = .ok (.aload_n 2, 1) := by decide +kernel
theorem d_Preconditions_checkIndex_10 : decode b_Preconditions_checkIndex 10 = .ok (.iload_n 0, 1) := by decide +kernel
theorem d_Preconditions_checkIndex_11 : decode b_Preconditions_checkIndex 11 = .ok (.iload_n 1, 1) := by decide +kernel
theorem d_Preconditions_checkIndex_12 : decode b_Preconditions_checkIndex 12 = .ok (.invokestatic 95, 3) := by decide +kernel
theorem d_Preconditions_checkIndex_15 : decode b_Preconditions_checkIndex 15 = .ok (.athrow, 1) := by decide +kernel
theorem d_Preconditions_checkIndex_16 : decode b_Preconditions_checkIndex 16 = .ok (.iload_n 0, 1) := by decide +kernel
theorem d_Preconditions_checkIndex_17 : decode b_Preconditions_checkIndex 17 = .ok (.ireturn, 1) := by decide +kernel
abbrev b_ArrayList_elementData : ByteArray := prog_39_method_18_code
abbrev y_ArrayList_elementData : MethodName := ⟨"java/util/ArrayList", "elementData", "(I)Ljava/lang/Object;"⟩
theorem d_ArrayList_elementData_0 : decode b_ArrayList_elementData 0 = .ok (.aload_n 0, 1) := by decide +kernel
theorem d_ArrayList_elementData_1 : decode b_ArrayList_elementData 1 = .ok (.getfield 9, 3) := by decide +kernel
theorem d_ArrayList_elementData_4 : decode b_ArrayList_elementData 4 = .ok (.iload_n 1, 1) := by decide +kernel
theorem d_ArrayList_elementData_5 : decode b_ArrayList_elementData 5 = .ok (.aaload, 1) := by decide +kernel
theorem d_ArrayList_elementData_6 : decode b_ArrayList_elementData 6 = .ok (.areturn, 1) := by decide +kernel
abbrev b_ArrayList_add_LObject : ByteArray := prog_39_method_25_code
abbrev y_ArrayList_add_LObject : MethodName := ⟨"java/util/ArrayList", "add", "(Ljava/lang/Object;)Z"⟩
theorem d_ArrayList_add_LObject_0 : decode b_ArrayList_add_LObject 0 = .ok (.aload_n 0, 1) := by decide +kernel
theorem d_ArrayList_add_LObject_1 : decode b_ArrayList_add_LObject 1 = .ok (.dup, 1) := by decide +kernel
theorem d_ArrayList_add_LObject_2 : decode b_ArrayList_add_LObject 2 = .ok (.getfield 63, 3) := by decide +kernel
theorem d_ArrayList_add_LObject_5 : decode b_ArrayList_add_LObject 5 = .ok (.iconst 1, 1) := by decide +kernel
theorem d_ArrayList_add_LObject_6 : decode b_ArrayList_add_LObject 6 = .ok (.iadd, 1) := by decide +kernel
theorem d_ArrayList_add_LObject_7 : decode b_ArrayList_add_LObject 7 = .ok (.putfield 63, 3) := by decide +kernel
theorem d_ArrayList_add_LObject_10 : decode b_ArrayList_add_LObject 10 = .ok (.aload_n 0, 1) := by decide +kernel
theorem d_ArrayList_add_LObject_11 : decode b_ArrayList_add_LObject 11 = .ok (.aload_n 1, 1) := by decide +kernel
theorem d_ArrayList_add_LObject_12 : decode b_ArrayList_add_LObject 12 = .ok (.aload_n 0, 1) := by decide +kernel
theorem d_ArrayList_add_LObject_13 : decode b_ArrayList_add_LObject 13 = .ok (.getfield 9, 3) := by decide +kernel
theorem d_ArrayList_add_LObject_16 : decode b_ArrayList_add_LObject 16 = .ok (.aload_n 0, 1) := by decide +kernel
theorem d_ArrayList_add_LObject_17 : decode b_ArrayList_add_LObject 17 = .ok (.getfield 48, 3) := by decide +kernel
theorem d_ArrayList_add_LObject_20 : decode b_ArrayList_add_LObject 20 = .ok (.invokevirtual 131, 3) := by decide +kernel
theorem d_ArrayList_add_LObject_23 : decode b_ArrayList_add_LObject 23 = .ok (.iconst 1, 1) := by decide +kernel
theorem d_ArrayList_add_LObject_24 : decode b_ArrayList_add_LObject 24 = .ok (.ireturn, 1) := by decide +kernel
abbrev b_ArrayList_add_LObjectLObjectI : ByteArray := prog_39_method_24_code
abbrev y_ArrayList_add_LObjectLObjectI : MethodName := ⟨"java/util/ArrayList", "add", "(Ljava/lang/Object;[Ljava/lang/Object;I)V"⟩
theorem d_ArrayList_add_LObjectLObjectI_0 : decode b_ArrayList_add_LObjectLObjectI 0 = .ok (.iload_n 3, 1) := by decide +kernel
theorem d_ArrayList_add_LObjectLObjectI_1 : decode b_ArrayList_add_LObjectLObjectI 1 = .ok (.aload_n 2, 1) := by decide +kernel
theorem d_ArrayList_add_LObjectLObjectI_2 : decode b_ArrayList_add_LObjectLObjectI 2 = .ok (.arraylength, 1) := by decide +kernel
theorem d_ArrayList_add_LObjectLObjectI_3 : decode b_ArrayList_add_LObjectLObjectI 3 = .ok (.if_icmp .ne 8, 3) := by decide +kernel
theorem d_ArrayList_add_LObjectLObjectI_6 : decode b_ArrayList_add_LObjectLObjectI 6 = .ok (.aload_n 0, 1) := by decide +kernel
theorem d_ArrayList_add_LObjectLObjectI_7 : decode b_ArrayList_add_LObjectLObjectI 7 = .ok (.invokevirtual 129, 3) := by decide +kernel
theorem d_ArrayList_add_LObjectLObjectI_10 : decode b_ArrayList_add_LObjectLObjectI 10 = .ok (.astore_n 2, 1) := by decide +kernel
theorem d_ArrayList_add_LObjectLObjectI_11 : decode b_ArrayList_add_LObjectLObjectI 11 = .ok (.aload_n 2, 1) := by decide +kernel
theorem d_ArrayList_add_LObjectLObjectI_12 : decode b_ArrayList_add_LObjectLObjectI 12 = .ok (.iload_n 3, 1) := by decide +kernel
theorem d_ArrayList_add_LObjectLObjectI_13 : decode b_ArrayList_add_LObjectLObjectI 13 = .ok (.aload_n 1, 1) := by decide +kernel
theorem d_ArrayList_add_LObjectLObjectI_14 : decode b_ArrayList_add_LObjectLObjectI 14 = .ok (.aastore, 1) := by decide +kernel
theorem d_ArrayList_add_LObjectLObjectI_15 : decode b_ArrayList_add_LObjectLObjectI 15 = .ok (.aload_n 0, 1) := by decide +kernel
theorem d_ArrayList_add_LObjectLObjectI_16 : decode b_ArrayList_add_LObjectLObjectI 16 = .ok (.iload_n 3, 1) := by decide +kernel
theorem d_ArrayList_add_LObjectLObjectI_17 : decode b_ArrayList_add_LObjectLObjectI 17 = .ok (.iconst 1, 1) := by decide +kernel
theorem d_ArrayList_add_LObjectLObjectI_18 : decode b_ArrayList_add_LObjectLObjectI 18 = .ok (.iadd, 1) := by decide +kernel
theorem d_ArrayList_add_LObjectLObjectI_19 : decode b_ArrayList_add_LObjectLObjectI 19 = .ok (.putfield 48, 3) := by decide +kernel
theorem d_ArrayList_add_LObjectLObjectI_22 : decode b_ArrayList_add_LObjectLObjectI 22 = .ok (.return_, 1) := by decide +kernel
abbrev b_ArrayList_grow_ : ByteArray := prog_39_method_7_code
abbrev y_ArrayList_grow_ : MethodName := ⟨"java/util/ArrayList", "grow", "()[Ljava/lang/Object;"⟩
theorem d_ArrayList_grow__0 : decode b_ArrayList_grow_ 0 = .ok (.aload_n 0, 1) := by decide +kernel
theorem d_ArrayList_grow__1 : decode b_ArrayList_grow_ 1 = .ok (.aload_n 0, 1) := by decide +kernel
theorem d_ArrayList_grow__2 : decode b_ArrayList_grow_ 2 = .ok (.getfield 48, 3) := by decide +kernel
theorem d_ArrayList_grow__5 : decode b_ArrayList_grow_ 5 = .ok (.iconst 1, 1) := by decide +kernel
theorem d_ArrayList_grow__6 : decode b_ArrayList_grow_ 6 = .ok (.iadd, 1) := by decide +kernel
theorem d_ArrayList_grow__7 : decode b_ArrayList_grow_ 7 = .ok (.invokevirtual 69, 3) := by decide +kernel
theorem d_ArrayList_grow__10 : decode b_ArrayList_grow_ 10 = .ok (.areturn, 1) := by decide +kernel
abbrev b_ArrayList_grow_I : ByteArray := prog_39_method_6_code
abbrev y_ArrayList_grow_I : MethodName := ⟨"java/util/ArrayList", "grow", "(I)[Ljava/lang/Object;"⟩
theorem d_ArrayList_grow_I_0 : decode b_ArrayList_grow_I 0 = .ok (.aload_n 0, 1) := by decide +kernel
theorem d_ArrayList_grow_I_1 : decode b_ArrayList_grow_I 1 = .ok (.getfield 9, 3) := by decide +kernel
theorem d_ArrayList_grow_I_4 : decode b_ArrayList_grow_I 4 = .ok (.arraylength, 1) := by decide +kernel
theorem d_ArrayList_grow_I_5 : decode b_ArrayList_grow_I 5 = .ok (.istore_n 2, 1) := by decide +kernel
theorem d_ArrayList_grow_I_6 : decode b_ArrayList_grow_I 6 = .ok (.iload_n 2, 1) := by decide +kernel
theorem d_ArrayList_grow_I_7 : decode b_ArrayList_grow_I 7 = .ok (.ifCond .gt 13, 3) := by decide +kernel
theorem d_ArrayList_grow_I_10 : decode b_ArrayList_grow_I 10 = .ok (.aload_n 0, 1) := by decide +kernel
theorem d_ArrayList_grow_I_11 : decode b_ArrayList_grow_I 11 = .ok (.getfield 9, 3) := by decide +kernel
theorem d_ArrayList_grow_I_14 : decode b_ArrayList_grow_I 14 = .ok (.getstatic 39, 3) := by decide +kernel
theorem d_ArrayList_grow_I_17 : decode b_ArrayList_grow_I 17 = .ok (.if_acmp .eq 28, 3) := by decide +kernel
theorem d_ArrayList_grow_I_20 : decode b_ArrayList_grow_I 20 = .ok (.iload_n 2, 1) := by decide +kernel
theorem d_ArrayList_grow_I_21 : decode b_ArrayList_grow_I 21 = .ok (.iload_n 1, 1) := by decide +kernel
theorem d_ArrayList_grow_I_22 : decode b_ArrayList_grow_I 22 = .ok (.iload_n 2, 1) := by decide +kernel
theorem d_ArrayList_grow_I_23 : decode b_ArrayList_grow_I 23 = .ok (.isub, 1) := by decide +kernel
theorem d_ArrayList_grow_I_24 : decode b_ArrayList_grow_I 24 = .ok (.iload_n 2, 1) := by decide +kernel
theorem d_ArrayList_grow_I_25 : decode b_ArrayList_grow_I 25 = .ok (.iconst 1, 1) := by decide +kernel
theorem d_ArrayList_grow_I_26 : decode b_ArrayList_grow_I 26 = .ok (.ishr, 1) := by decide +kernel
theorem d_ArrayList_grow_I_27 : decode b_ArrayList_grow_I 27 = .ok (.invokestatic 73, 3) := by decide +kernel
theorem d_ArrayList_grow_I_30 : decode b_ArrayList_grow_I 30 = .ok (.istore_n 3, 1) := by decide +kernel
theorem d_ArrayList_grow_I_31 : decode b_ArrayList_grow_I 31 = .ok (.aload_n 0, 1) := by decide +kernel
theorem d_ArrayList_grow_I_32 : decode b_ArrayList_grow_I 32 = .ok (.aload_n 0, 1) := by decide +kernel
theorem d_ArrayList_grow_I_33 : decode b_ArrayList_grow_I 33 = .ok (.getfield 9, 3) := by decide +kernel
theorem d_ArrayList_grow_I_36 : decode b_ArrayList_grow_I 36 = .ok (.iload_n 3, 1) := by decide +kernel
theorem d_ArrayList_grow_I_37 : decode b_ArrayList_grow_I 37 = .ok (.invokestatic 66, 3) := by decide +kernel
theorem d_ArrayList_grow_I_40 : decode b_ArrayList_grow_I 40 = .ok (.dup_x1, 1) := by decide +kernel
theorem d_ArrayList_grow_I_41 : decode b_ArrayList_grow_I 41 = .ok (.putfield 9, 3) := by decide +kernel
theorem d_ArrayList_grow_I_44 : decode b_ArrayList_grow_I 44 = .ok (.areturn, 1) := by decide +kernel
theorem d_ArrayList_grow_I_45 : decode b_ArrayList_grow_I 45 = .ok (.aload_n 0, 1) := by decide +kernel
theorem d_ArrayList_grow_I_46 : decode b_ArrayList_grow_I 46 = .ok (.bipush 10, 2) := by decide +kernel
theorem d_ArrayList_grow_I_48 : decode b_ArrayList_grow_I 48 = .ok (.iload_n 1, 1) := by decide +kernel
theorem d_ArrayList_grow_I_49 : decode b_ArrayList_grow_I 49 = .ok (.invokestatic 79, 3) := by decide +kernel
theorem d_ArrayList_grow_I_52 : decode b_ArrayList_grow_I 52 = .ok (.anewarray 7, 3) := by decide +kernel
theorem d_ArrayList_grow_I_55 : decode b_ArrayList_grow_I 55 = .ok (.dup_x1, 1) := by decide +kernel
theorem d_ArrayList_grow_I_56 : decode b_ArrayList_grow_I 56 = .ok (.putfield 9, 3) := by decide +kernel
theorem d_ArrayList_grow_I_59 : decode b_ArrayList_grow_I 59 = .ok (.areturn, 1) := by decide +kernel
abbrev b_ArraysSupport_newLength : ByteArray := prog_46_method_27_code
abbrev y_ArraysSupport_newLength : MethodName := ⟨"jdk/internal/util/ArraysSupport", "newLength", "(III)I"⟩
theorem d_ArraysSupport_newLength_0 : decode b_ArraysSupport_newLength 0 = .ok (.iload_n 0, 1) := by decide +kernel
theorem d_ArraysSupport_newLength_1 : decode b_ArraysSupport_newLength 1 = .ok (.iload_n 1, 1) := by decide +kernel
theorem d_ArraysSupport_newLength_2 : decode b_ArraysSupport_newLength 2 = .ok (.iload_n 2, 1) := by decide +kernel
theorem d_ArraysSupport_newLength_3 : decode b_ArraysSupport_newLength 3 = .ok (.invokestatic 194, 3) := by decide +kernel
theorem d_ArraysSupport_newLength_6 : decode b_ArraysSupport_newLength 6 = .ok (.iadd, 1) := by decide +kernel
theorem d_ArraysSupport_newLength_7 : decode b_ArraysSupport_newLength 7 = .ok (.istore_n 3, 1) := by decide +kernel
theorem d_ArraysSupport_newLength_8 : decode b_ArraysSupport_newLength 8 = .ok (.iconst 0, 1) := by decide +kernel
theorem d_ArraysSupport_newLength_9 : decode b_ArraysSupport_newLength 9 = .ok (.iload_n 3, 1) := by decide +kernel
theorem d_ArraysSupport_newLength_10 : decode b_ArraysSupport_newLength 10 = .ok (.if_icmp .ge 11, 3) := by decide +kernel
theorem d_ArraysSupport_newLength_13 : decode b_ArraysSupport_newLength 13 = .ok (.iload_n 3, 1) := by decide +kernel
theorem d_ArraysSupport_newLength_14 : decode b_ArraysSupport_newLength 14 = .ok (.ldc 200, 2) := by decide +kernel
theorem d_ArraysSupport_newLength_16 : decode b_ArraysSupport_newLength 16 = .ok (.if_icmp .gt 5, 3) := by decide +kernel
theorem d_ArraysSupport_newLength_19 : decode b_ArraysSupport_newLength 19 = .ok (.iload_n 3, 1) := by decide +kernel
theorem d_ArraysSupport_newLength_20 : decode b_ArraysSupport_newLength 20 = .ok (.ireturn, 1) := by decide +kernel
theorem d_ArraysSupport_newLength_21 : decode b_ArraysSupport_newLength 21 = .ok (.iload_n 0, 1) := by decide +kernel
theorem d_ArraysSupport_newLength_22 : decode b_ArraysSupport_newLength 22 = .ok (.iload_n 1, 1) := by decide +kernel
theorem d_ArraysSupport_newLength_23 : decode b_ArraysSupport_newLength 23 = .ok (.invokestatic 201, 3) := by decide +kernel
theorem d_ArraysSupport_newLength_26 : decode b_ArraysSupport_newLength 26 = .ok (.ireturn, 1) := by decide +kernel
abbrev b_ArraysSupport_hugeLength : ByteArray := prog_46_method_28_code
abbrev y_ArraysSupport_hugeLength : MethodName := ⟨"jdk/internal/util/ArraysSupport", "hugeLength", "(II)I"⟩
theorem d_ArraysSupport_hugeLength_0 : decode b_ArraysSupport_hugeLength 0 = .ok (.iload_n 0, 1) := by decide +kernel
theorem d_ArraysSupport_hugeLength_1 : decode b_ArraysSupport_hugeLength 1 = .ok (.iload_n 1, 1) := by decide +kernel
theorem d_ArraysSupport_hugeLength_2 : decode b_ArraysSupport_hugeLength 2 = .ok (.iadd, 1) := by decide +kernel
theorem d_ArraysSupport_hugeLength_3 : decode b_ArraysSupport_hugeLength 3 = .ok (.istore_n 2, 1) := by decide +kernel
theorem d_ArraysSupport_hugeLength_4 : decode b_ArraysSupport_hugeLength 4 = .ok (.iload_n 2, 1) := by decide +kernel
theorem d_ArraysSupport_hugeLength_5 : decode b_ArraysSupport_hugeLength 5 = .ok (.ifCond .ge 44, 3) := by decide +kernel
theorem d_ArraysSupport_hugeLength_8 : decode b_ArraysSupport_hugeLength 8 = .ok (.new 204, 3) := by decide +kernel
theorem d_ArraysSupport_hugeLength_11 : decode b_ArraysSupport_hugeLength 11 = .ok (.dup, 1) := by decide +kernel
theorem d_ArraysSupport_hugeLength_12 : decode b_ArraysSupport_hugeLength 12 = .ok (.new 89, 3) := by decide +kernel
theorem d_ArraysSupport_hugeLength_15 : decode b_ArraysSupport_hugeLength 15 = .ok (.dup, 1) := by decide +kernel
theorem d_ArraysSupport_hugeLength_16 : decode b_ArraysSupport_hugeLength 16 = .ok (.invokespecial 91, 3) := by decide +kernel
theorem d_ArraysSupport_hugeLength_19 : decode b_ArraysSupport_hugeLength 19 = .ok (.ldc 206, 2) := by decide +kernel
theorem d_ArraysSupport_hugeLength_21 : decode b_ArraysSupport_hugeLength 21 = .ok (.invokevirtual 94, 3) := by decide +kernel
theorem d_ArraysSupport_hugeLength_24 : decode b_ArraysSupport_hugeLength 24 = .ok (.iload_n 0, 1) := by decide +kernel
theorem d_ArraysSupport_hugeLength_25 : decode b_ArraysSupport_hugeLength 25 = .ok (.invokevirtual 98, 3) := by decide +kernel
theorem d_ArraysSupport_hugeLength_28 : decode b_ArraysSupport_hugeLength 28 = .ok (.ldc 208, 2) := by decide +kernel
theorem d_ArraysSupport_hugeLength_30 : decode b_ArraysSupport_hugeLength 30 = .ok (.invokevirtual 94, 3) := by decide +kernel
theorem d_ArraysSupport_hugeLength_33 : decode b_ArraysSupport_hugeLength 33 = .ok (.iload_n 1, 1) := by decide +kernel
theorem d_ArraysSupport_hugeLength_34 : decode b_ArraysSupport_hugeLength 34 = .ok (.invokevirtual 98, 3) := by decide +kernel
theorem d_ArraysSupport_hugeLength_37 : decode b_ArraysSupport_hugeLength 37 = .ok (.ldc 210, 2) := by decide +kernel
theorem d_ArraysSupport_hugeLength_39 : decode b_ArraysSupport_hugeLength 39 = .ok (.invokevirtual 94, 3) := by decide +kernel
theorem d_ArraysSupport_hugeLength_42 : decode b_ArraysSupport_hugeLength 42 = .ok (.invokevirtual 101, 3) := by decide +kernel
theorem d_ArraysSupport_hugeLength_45 : decode b_ArraysSupport_hugeLength 45 = .ok (.invokespecial 212, 3) := by decide +kernel
theorem d_ArraysSupport_hugeLength_48 : decode b_ArraysSupport_hugeLength 48 = .ok (.athrow, 1) := by decide +kernel
theorem d_ArraysSupport_hugeLength_49 : decode b_ArraysSupport_hugeLength 49 = .ok (.iload_n 2, 1) := by decide +kernel
theorem d_ArraysSupport_hugeLength_50 : decode b_ArraysSupport_hugeLength 50 = .ok (.ldc 200, 2) := by decide +kernel
theorem d_ArraysSupport_hugeLength_52 : decode b_ArraysSupport_hugeLength 52 = .ok (.if_icmp .gt 6, 3) := by decide +kernel
theorem d_ArraysSupport_hugeLength_55 : decode b_ArraysSupport_hugeLength 55 = .ok (.ldc 200, 2) := by decide +kernel
theorem d_ArraysSupport_hugeLength_57 : decode b_ArraysSupport_hugeLength 57 = .ok (.ireturn, 1) := by decide +kernel
theorem d_ArraysSupport_hugeLength_58 : decode b_ArraysSupport_hugeLength 58 = .ok (.iload_n 2, 1) := by decide +kernel
theorem d_ArraysSupport_hugeLength_59 : decode b_ArraysSupport_hugeLength 59 = .ok (.ireturn, 1) := by decide +kernel
abbrev b_Arrays_copyOf_LObjectI : ByteArray := prog_40_method_119_code
abbrev y_Arrays_copyOf_LObjectI : MethodName := ⟨"java/util/Arrays", "copyOf", "([Ljava/lang/Object;I)[Ljava/lang/Object;"⟩
theorem d_Arrays_copyOf_LObjectI_0 : decode b_Arrays_copyOf_LObjectI 0 = .ok (.aload_n 0, 1) := by decide +kernel
theorem d_Arrays_copyOf_LObjectI_1 : decode b_Arrays_copyOf_LObjectI 1 = .ok (.iload_n 1, 1) := by decide +kernel
theorem d_Arrays_copyOf_LObjectI_2 : decode b_Arrays_copyOf_LObjectI 2 = .ok (.aload_n 0, 1) := by decide +kernel
theorem d_Arrays_copyOf_LObjectI_3 : decode b_Arrays_copyOf_LObjectI 3 = .ok (.invokevirtual 86, 3) := by decide +kernel
theorem d_Arrays_copyOf_LObjectI_6 : decode b_Arrays_copyOf_LObjectI 6 = .ok (.invokestatic 300, 3) := by decide +kernel
theorem d_Arrays_copyOf_LObjectI_9 : decode b_Arrays_copyOf_LObjectI 9 = .ok (.areturn, 1) := by decide +kernel
abbrev b_Arrays_copyOf_LObjectILClass : ByteArray := prog_40_method_120_code
abbrev y_Arrays_copyOf_LObjectILClass : MethodName := ⟨"java/util/Arrays", "copyOf", "([Ljava/lang/Object;ILjava/lang/Class;)[Ljava/lang/Object;"⟩
theorem d_Arrays_copyOf_LObjectILClass_0 : decode b_Arrays_copyOf_LObjectILClass 0 = .ok (.aload_n 2, 1) := by decide +kernel
theorem d_Arrays_copyOf_LObjectILClass_1 : decode b_Arrays_copyOf_LObjectILClass 1 = .ok (.ldc 110, 2) := by decide +kernel
theorem d_Arrays_copyOf_LObjectILClass_3 : decode b_Arrays_copyOf_LObjectILClass 3 = .ok (.if_acmp .ne 10, 3) := by decide +kernel
theorem d_Arrays_copyOf_LObjectILClass_6 : decode b_Arrays_copyOf_LObjectILClass 6 = .ok (.iload_n 1, 1) := by decide +kernel
theorem d_Arrays_copyOf_LObjectILClass_7 : decode b_Arrays_copyOf_LObjectILClass 7 = .ok (.anewarray 2, 3) := by decide +kernel
theorem d_Arrays_copyOf_LObjectILClass_10 : decode b_Arrays_copyOf_LObjectILClass 10 = .ok (.goto 14, 3) := by decide +kernel
theorem d_Arrays_copyOf_LObjectILClass_13 : decode b_Arrays_copyOf_LObjectILClass 13 = .ok (.aload_n 2, 1) := by decide +kernel
theorem d_Arrays_copyOf_LObjectILClass_14 : decode b_Arrays_copyOf_LObjectILClass 14 = .ok (.invokevirtual 90, 3) := by decide +kernel
theorem d_Arrays_copyOf_LObjectILClass_17 : decode b_Arrays_copyOf_LObjectILClass 17 = .ok (.iload_n 1, 1) := by decide +kernel
theorem d_Arrays_copyOf_LObjectILClass_18 : decode b_Arrays_copyOf_LObjectILClass 18 = .ok (.invokestatic 95, 3) := by decide +kernel
theorem d_Arrays_copyOf_LObjectILClass_21 : decode b_Arrays_copyOf_LObjectILClass 21 = .ok (.checkcast 110, 3) := by decide +kernel
theorem d_Arrays_copyOf_LObjectILClass_24 : decode b_Arrays_copyOf_LObjectILClass 24 = .ok (.astore_n 3, 1) := by decide +kernel
theorem d_Arrays_copyOf_LObjectILClass_25 : decode b_Arrays_copyOf_LObjectILClass 25 = .ok (.aload_n 0, 1) := by decide +kernel
theorem d_Arrays_copyOf_LObjectILClass_26 : decode b_Arrays_copyOf_LObjectILClass 26 = .ok (.iconst 0, 1) := by decide +kernel
theorem d_Arrays_copyOf_LObjectILClass_27 : decode b_Arrays_copyOf_LObjectILClass 27 = .ok (.aload_n 3, 1) := by decide +kernel
theorem d_Arrays_copyOf_LObjectILClass_28 : decode b_Arrays_copyOf_LObjectILClass 28 = .ok (.iconst 0, 1) := by decide +kernel
theorem d_Arrays_copyOf_LObjectILClass_29 : decode b_Arrays_copyOf_LObjectILClass 29 = .ok (.aload_n 0, 1) := by decide +kernel
theorem d_Arrays_copyOf_LObjectILClass_30 : decode b_Arrays_copyOf_LObjectILClass 30 = .ok (.arraylength, 1) := by decide +kernel
theorem d_Arrays_copyOf_LObjectILClass_31 : decode b_Arrays_copyOf_LObjectILClass 31 = .ok (.iload_n 1, 1) := by decide +kernel
theorem d_Arrays_copyOf_LObjectILClass_32 : decode b_Arrays_copyOf_LObjectILClass 32 = .ok (.invokestatic 304, 3) := by decide +kernel
theorem d_Arrays_copyOf_LObjectILClass_35 : decode b_Arrays_copyOf_LObjectILClass 35 = .ok (.invokestatic 150, 3) := by decide +kernel
theorem d_Arrays_copyOf_LObjectILClass_38 : decode b_Arrays_copyOf_LObjectILClass 38 = .ok (.aload_n 3, 1) := by decide +kernel
theorem d_Arrays_copyOf_LObjectILClass_39 : decode b_Arrays_copyOf_LObjectILClass 39 = .ok (.areturn, 1) := by decide +kernel
abbrev b_IndexOutOfBoundsException_init : ByteArray := prog_24_method_1_code
abbrev y_IndexOutOfBoundsException_init : MethodName := ⟨"java/lang/IndexOutOfBoundsException", "<init>", "()V"⟩
theorem d_IndexOutOfBoundsException_init_0 : decode b_IndexOutOfBoundsException_init 0 = .ok (.aload_n 0, 1) := by decide +kernel
theorem d_IndexOutOfBoundsException_init_1 : decode b_IndexOutOfBoundsException_init 1 = .ok (.invokespecial 1, 3) := by decide +kernel
theorem d_IndexOutOfBoundsException_init_4 : decode b_IndexOutOfBoundsException_init 4 = .ok (.return_, 1) := by decide +kernel
abbrev b_Integer_valueOf : ByteArray := prog_25_method_22_code
abbrev y_Integer_valueOf : MethodName := ⟨"java/lang/Integer", "valueOf", "(I)Ljava/lang/Integer;"⟩
theorem d_Integer_valueOf_0 : decode b_Integer_valueOf 0 = .ok (.iload_n 0, 1) := by decide +kernel
theorem d_Integer_valueOf_1 : decode b_Integer_valueOf 1 = .ok (.bipush (-128), 2) := by decide +kernel
theorem d_Integer_valueOf_3 : decode b_Integer_valueOf 3 = .ok (.if_icmp .lt 20, 3) := by decide +kernel
theorem d_Integer_valueOf_6 : decode b_Integer_valueOf 6 = .ok (.iload_n 0, 1) := by decide +kernel
theorem d_Integer_valueOf_7 : decode b_Integer_valueOf 7 = .ok (.getstatic 191, 3) := by decide +kernel
theorem d_Integer_valueOf_10 : decode b_Integer_valueOf 10 = .ok (.if_icmp .gt 13, 3) := by decide +kernel
theorem d_Integer_valueOf_13 : decode b_Integer_valueOf 13 = .ok (.getstatic 195, 3) := by decide +kernel
theorem d_Integer_valueOf_16 : decode b_Integer_valueOf 16 = .ok (.iload_n 0, 1) := by decide +kernel
theorem d_Integer_valueOf_17 : decode b_Integer_valueOf 17 = .ok (.sipush 128, 3) := by decide +kernel
theorem d_Integer_valueOf_20 : decode b_Integer_valueOf 20 = .ok (.iadd, 1) := by decide +kernel
theorem d_Integer_valueOf_21 : decode b_Integer_valueOf 21 = .ok (.aaload, 1) := by decide +kernel
theorem d_Integer_valueOf_22 : decode b_Integer_valueOf 22 = .ok (.areturn, 1) := by decide +kernel
theorem d_Integer_valueOf_23 : decode b_Integer_valueOf 23 = .ok (.new 1, 3) := by decide +kernel
theorem d_Integer_valueOf_26 : decode b_Integer_valueOf 26 = .ok (.dup, 1) := by decide +kernel
theorem d_Integer_valueOf_27 : decode b_Integer_valueOf 27 = .ok (.iload_n 0, 1) := by decide +kernel
theorem d_Integer_valueOf_28 : decode b_Integer_valueOf 28 = .ok (.invokespecial 199, 3) := by decide +kernel
theorem d_Integer_valueOf_31 : decode b_Integer_valueOf 31 = .ok (.areturn, 1) := by decide +kernel
abbrev b_Integer_init : ByteArray := prog_25_method_23_code
abbrev y_Integer_init : MethodName := ⟨"java/lang/Integer", "<init>", "(I)V"⟩
theorem d_Integer_init_0 : decode b_Integer_init 0 = .ok (.aload_n 0, 1) := by decide +kernel
theorem d_Integer_init_1 : decode b_Integer_init 1 = .ok (.invokespecial 202, 3) := by decide +kernel
theorem d_Integer_init_4 : decode b_Integer_init 4 = .ok (.aload_n 0, 1) := by decide +kernel
theorem d_Integer_init_5 : decode b_Integer_init 5 = .ok (.iload_n 1, 1) := by decide +kernel
theorem d_Integer_init_6 : decode b_Integer_init 6 = .ok (.putfield 205, 3) := by decide +kernel
theorem d_Integer_init_9 : decode b_Integer_init 9 = .ok (.return_, 1) := by decide +kernel
abbrev b_Number_init : ByteArray := prog_29_method_1_code
abbrev y_Number_init : MethodName := ⟨"java/lang/Number", "<init>", "()V"⟩
theorem d_Number_init_0 : decode b_Number_init 0 = .ok (.aload_n 0, 1) := by decide +kernel
theorem d_Number_init_1 : decode b_Number_init 1 = .ok (.invokespecial 1, 3) := by decide +kernel
theorem d_Number_init_4 : decode b_Number_init 4 = .ok (.return_, 1) := by decide +kernel
abbrev b_String_length : ByteArray := prog_31_method_54_code
abbrev y_String_length : MethodName := ⟨"java/lang/String", "length", "()I"⟩
theorem d_String_length_0 : decode b_String_length 0 = .ok (.aload_n 0, 1) := by decide +kernel
theorem d_String_length_1 : decode b_String_length 1 = .ok (.getfield 9, 3) := by decide +kernel
theorem d_String_length_4 : decode b_String_length 4 = .ok (.arraylength, 1) := by decide +kernel
theorem d_String_length_5 : decode b_String_length 5 = .ok (.aload_n 0, 1) := by decide +kernel
theorem d_String_length_6 : decode b_String_length 6 = .ok (.invokevirtual 335, 3) := by decide +kernel
theorem d_String_length_9 : decode b_String_length 9 = .ok (.ishr, 1) := by decide +kernel
theorem d_String_length_10 : decode b_String_length 10 = .ok (.ireturn, 1) := by decide +kernel
abbrev b_String_coder : ByteArray := prog_31_method_152_code
abbrev y_String_coder : MethodName := ⟨"java/lang/String", "coder", "()B"⟩
theorem d_String_coder_0 : decode b_String_coder 0 = .ok (.getstatic 38, 3) := by decide +kernel
theorem d_String_coder_3 : decode b_String_coder 3 = .ok (.ifCond .eq 10, 3) := by decide +kernel
theorem d_String_coder_6 : decode b_String_coder 6 = .ok (.aload_n 0, 1) := by decide +kernel
theorem d_String_coder_7 : decode b_String_coder 7 = .ok (.getfield 15, 3) := by decide +kernel
theorem d_String_coder_10 : decode b_String_coder 10 = .ok (.goto 4, 3) := by decide +kernel
theorem d_String_coder_13 : decode b_String_coder 13 = .ok (.iconst 1, 1) := by decide +kernel
theorem d_String_coder_14 : decode b_String_coder 14 = .ok (.ireturn, 1) := by decide +kernel
abbrev b_String_charAt : ByteArray := prog_31_method_56_code
abbrev y_String_charAt : MethodName := ⟨"java/lang/String", "charAt", "(I)C"⟩
theorem d_String_charAt_0 : decode b_String_charAt 0 = .ok (.aload_n 0, 1) := by decide +kernel
theorem d_String_charAt_1 : decode b_String_charAt 1 = .ok (.invokevirtual 492, 3) := by decide +kernel
theorem d_String_charAt_4 : decode b_String_charAt 4 = .ok (.ifCond .eq 12, 3) := by decide +kernel
theorem d_String_charAt_7 : decode b_String_charAt 7 = .ok (.aload_n 0, 1) := by decide +kernel
theorem d_String_charAt_8 : decode b_String_charAt 8 = .ok (.getfield 9, 3) := by decide +kernel
theorem d_String_charAt_11 : decode b_String_charAt 11 = .ok (.iload_n 1, 1) := by decide +kernel
theorem d_String_charAt_12 : decode b_String_charAt 12 = .ok (.invokestatic 495, 3) := by decide +kernel
theorem d_String_charAt_15 : decode b_String_charAt 15 = .ok (.ireturn, 1) := by decide +kernel
theorem d_String_charAt_16 : decode b_String_charAt 16 = .ok (.aload_n 0, 1) := by decide +kernel
theorem d_String_charAt_17 : decode b_String_charAt 17 = .ok (.getfield 9, 3) := by decide +kernel
theorem d_String_charAt_20 : decode b_String_charAt 20 = .ok (.iload_n 1, 1) := by decide +kernel
theorem d_String_charAt_21 : decode b_String_charAt 21 = .ok (.invokestatic 498, 3) := by decide +kernel
theorem d_String_charAt_24 : decode b_String_charAt 24 = .ok (.ireturn, 1) := by decide +kernel
abbrev b_String_isLatin1 : ByteArray := prog_31_method_154_code
abbrev y_String_isLatin1 : MethodName := ⟨"java/lang/String", "isLatin1", "()Z"⟩
theorem d_String_isLatin1_0 : decode b_String_isLatin1 0 = .ok (.getstatic 38, 3) := by decide +kernel
theorem d_String_isLatin1_3 : decode b_String_isLatin1 3 = .ok (.ifCond .eq 14, 3) := by decide +kernel
theorem d_String_isLatin1_6 : decode b_String_isLatin1 6 = .ok (.aload_n 0, 1) := by decide +kernel
theorem d_String_isLatin1_7 : decode b_String_isLatin1 7 = .ok (.getfield 15, 3) := by decide +kernel
theorem d_String_isLatin1_10 : decode b_String_isLatin1 10 = .ok (.ifCond .ne 7, 3) := by decide +kernel
theorem d_String_isLatin1_13 : decode b_String_isLatin1 13 = .ok (.iconst 1, 1) := by decide +kernel
theorem d_String_isLatin1_14 : decode b_String_isLatin1 14 = .ok (.goto 4, 3) := by decide +kernel
theorem d_String_isLatin1_17 : decode b_String_isLatin1 17 = .ok (.iconst 0, 1) := by decide +kernel
theorem d_String_isLatin1_18 : decode b_String_isLatin1 18 = .ok (.ireturn, 1) := by decide +kernel
abbrev b_StringLatin1_charAt : ByteArray := prog_32_method_2_code
abbrev y_StringLatin1_charAt : MethodName := ⟨"java/lang/StringLatin1", "charAt", "([BI)C"⟩
theorem d_StringLatin1_charAt_0 : decode b_StringLatin1_charAt 0 = .ok (.iload_n 1, 1) := by decide +kernel
theorem d_StringLatin1_charAt_1 : decode b_StringLatin1_charAt 1 = .ok (.aload_n 0, 1) := by decide +kernel
theorem d_StringLatin1_charAt_2 : decode b_StringLatin1_charAt 2 = .ok (.arraylength, 1) := by decide +kernel
theorem d_StringLatin1_charAt_3 : decode b_StringLatin1_charAt 3 = .ok (.invokestatic 9, 3) := by decide +kernel
theorem d_StringLatin1_charAt_6 : decode b_StringLatin1_charAt 6 = .ok (.aload_n 0, 1) := by decide +kernel
theorem d_StringLatin1_charAt_7 : decode b_StringLatin1_charAt 7 = .ok (.iload_n 1, 1) := by decide +kernel
theorem d_StringLatin1_charAt_8 : decode b_StringLatin1_charAt 8 = .ok (.baload, 1) := by decide +kernel
theorem d_StringLatin1_charAt_9 : decode b_StringLatin1_charAt 9 = .ok (.sipush 255, 3) := by decide +kernel
theorem d_StringLatin1_charAt_12 : decode b_StringLatin1_charAt 12 = .ok (.iand, 1) := by decide +kernel
theorem d_StringLatin1_charAt_13 : decode b_StringLatin1_charAt 13 = .ok (.i2c, 1) := by decide +kernel
theorem d_StringLatin1_charAt_14 : decode b_StringLatin1_charAt 14 = .ok (.ireturn, 1) := by decide +kernel
abbrev b_String_checkIndex : ByteArray := prog_31_method_155_code
abbrev y_String_checkIndex : MethodName := ⟨"java/lang/String", "checkIndex", "(II)V"⟩
theorem d_String_checkIndex_0 : decode b_String_checkIndex 0 = .ok (.iload_n 0, 1) := by decide +kernel
theorem d_String_checkIndex_1 : decode b_String_checkIndex 1 = .ok (.iload_n 1, 1) := by decide +kernel
theorem d_String_checkIndex_2 : decode b_String_checkIndex 2 = .ok (.getstatic 1053, 3) := by decide +kernel
theorem d_String_checkIndex_5 : decode b_String_checkIndex 5 = .ok (.invokestatic 1059, 3) := by decide +kernel
theorem d_String_checkIndex_8 : decode b_String_checkIndex 8 = .ok (.pop, 1) := by decide +kernel
theorem d_String_checkIndex_9 : decode b_String_checkIndex 9 = .ok (.return_, 1) := by decide +kernel
abbrev b_StringUTF16_charAt : ByteArray := prog_33_method_83_code
abbrev y_StringUTF16_charAt : MethodName := ⟨"java/lang/StringUTF16", "charAt", "([BI)C"⟩
theorem d_StringUTF16_charAt_0 : decode b_StringUTF16_charAt 0 = .ok (.iload_n 1, 1) := by decide +kernel
theorem d_StringUTF16_charAt_1 : decode b_StringUTF16_charAt 1 = .ok (.aload_n 0, 1) := by decide +kernel
theorem d_StringUTF16_charAt_2 : decode b_StringUTF16_charAt 2 = .ok (.invokestatic 67, 3) := by decide +kernel
theorem d_StringUTF16_charAt_5 : decode b_StringUTF16_charAt 5 = .ok (.aload_n 0, 1) := by decide +kernel
theorem d_StringUTF16_charAt_6 : decode b_StringUTF16_charAt 6 = .ok (.iload_n 1, 1) := by decide +kernel
theorem d_StringUTF16_charAt_7 : decode b_StringUTF16_charAt 7 = .ok (.invokestatic 71, 3) := by decide +kernel
theorem d_StringUTF16_charAt_10 : decode b_StringUTF16_charAt 10 = .ok (.ireturn, 1) := by decide +kernel
abbrev b_StringUTF16_checkIndex : ByteArray := prog_33_method_91_code
abbrev y_StringUTF16_checkIndex : MethodName := ⟨"java/lang/StringUTF16", "checkIndex", "(I[B)V"⟩
theorem d_StringUTF16_checkIndex_0 : decode b_StringUTF16_checkIndex 0 = .ok (.iload_n 0, 1) := by decide +kernel
theorem d_StringUTF16_checkIndex_1 : decode b_StringUTF16_checkIndex 1 = .ok (.aload_n 1, 1) := by decide +kernel
theorem d_StringUTF16_checkIndex_2 : decode b_StringUTF16_checkIndex 2 = .ok (.invokestatic 48, 3) := by decide +kernel
theorem d_StringUTF16_checkIndex_5 : decode b_StringUTF16_checkIndex 5 = .ok (.invokestatic 414, 3) := by decide +kernel
theorem d_StringUTF16_checkIndex_8 : decode b_StringUTF16_checkIndex 8 = .ok (.return_, 1) := by decide +kernel
abbrev b_StringUTF16_length : ByteArray := prog_33_method_6_code
abbrev y_StringUTF16_length : MethodName := ⟨"java/lang/StringUTF16", "length", "([B)I"⟩
theorem d_StringUTF16_length_0 : decode b_StringUTF16_length 0 = .ok (.aload_n 0, 1) := by decide +kernel
theorem d_StringUTF16_length_1 : decode b_StringUTF16_length 1 = .ok (.arraylength, 1) := by decide +kernel
theorem d_StringUTF16_length_2 : decode b_StringUTF16_length 2 = .ok (.iconst 1, 1) := by decide +kernel
theorem d_StringUTF16_length_3 : decode b_StringUTF16_length 3 = .ok (.ishr, 1) := by decide +kernel
theorem d_StringUTF16_length_4 : decode b_StringUTF16_length 4 = .ok (.ireturn, 1) := by decide +kernel
abbrev b_StringUTF16_getChar : ByteArray := prog_33_method_5_code
abbrev y_StringUTF16_getChar : MethodName := ⟨"java/lang/StringUTF16", "getChar", "([BI)C"⟩
theorem d_StringUTF16_getChar_0 : decode b_StringUTF16_getChar 0 = .ok (.getstatic 44, 3) := by decide +kernel
theorem d_StringUTF16_getChar_3 : decode b_StringUTF16_getChar 3 = .ok (.ifCond .ne 25, 3) := by decide +kernel
theorem d_StringUTF16_getChar_6 : decode b_StringUTF16_getChar 6 = .ok (.iload_n 1, 1) := by decide +kernel
theorem d_StringUTF16_getChar_7 : decode b_StringUTF16_getChar 7 = .ok (.ifCond .lt 11, 3) := by decide +kernel
theorem d_StringUTF16_getChar_10 : decode b_StringUTF16_getChar 10 = .ok (.iload_n 1, 1) := by decide +kernel
theorem d_StringUTF16_getChar_11 : decode b_StringUTF16_getChar 11 = .ok (.aload_n 0, 1) := by decide +kernel
theorem d_StringUTF16_getChar_12 : decode b_StringUTF16_getChar 12 = .ok (.invokestatic 48, 3) := by decide +kernel
theorem d_StringUTF16_getChar_15 : decode b_StringUTF16_getChar 15 = .ok (.if_icmp .lt 13, 3) := by decide +kernel
theorem d_StringUTF16_getChar_18 : decode b_StringUTF16_getChar 18 = .ok (.new 52, 3) := by decide +kernel
theorem d_StringUTF16_getChar_21 : decode b_StringUTF16_getChar 21 = .ok (.dup, 1) := by decide +kernel
theorem d_StringUTF16_getChar_22 : decode b_StringUTF16_getChar 22 = .ok (.ldc 54, 2) := by decide +kernel
theorem d_StringUTF16_getChar_24 : decode b_StringUTF16_getChar 24 = .ok (.invokespecial 56, 3) := by decide +kernel
theorem d_StringUTF16_getChar_27 : decode b_StringUTF16_getChar 27 = .ok (.athrow, 1) := by decide +kernel
theorem d_StringUTF16_getChar_28 : decode b_StringUTF16_getChar 28 = .ok (.iload_n 1, 1) := by decide +kernel
theorem d_StringUTF16_getChar_29 : decode b_StringUTF16_getChar 29 = .ok (.iconst 1, 1) := by decide +kernel
theorem d_StringUTF16_getChar_30 : decode b_StringUTF16_getChar 30 = .ok (.ishl, 1) := by decide +kernel
theorem d_StringUTF16_getChar_31 : decode b_StringUTF16_getChar 31 = .ok (.istore_n 1, 1) := by decide +kernel
theorem d_StringUTF16_getChar_32 : decode b_StringUTF16_getChar 32 = .ok (.aload_n 0, 1) := by decide +kernel
theorem d_StringUTF16_getChar_33 : decode b_StringUTF16_getChar 33 = .ok (.iload_n 1, 1) := by decide +kernel
theorem d_StringUTF16_getChar_34 : decode b_StringUTF16_getChar 34 = .ok (.iinc 1 1, 3) := by decide +kernel
theorem d_StringUTF16_getChar_37 : decode b_StringUTF16_getChar 37 = .ok (.baload, 1) := by decide +kernel
theorem d_StringUTF16_getChar_38 : decode b_StringUTF16_getChar 38 = .ok (.sipush 255, 3) := by decide +kernel
theorem d_StringUTF16_getChar_41 : decode b_StringUTF16_getChar 41 = .ok (.iand, 1) := by decide +kernel
theorem d_StringUTF16_getChar_42 : decode b_StringUTF16_getChar 42 = .ok (.getstatic 59, 3) := by decide +kernel
theorem d_StringUTF16_getChar_45 : decode b_StringUTF16_getChar 45 = .ok (.ishl, 1) := by decide +kernel
theorem d_StringUTF16_getChar_46 : decode b_StringUTF16_getChar 46 = .ok (.aload_n 0, 1) := by decide +kernel
theorem d_StringUTF16_getChar_47 : decode b_StringUTF16_getChar 47 = .ok (.iload_n 1, 1) := by decide +kernel
theorem d_StringUTF16_getChar_48 : decode b_StringUTF16_getChar 48 = .ok (.baload, 1) := by decide +kernel
theorem d_StringUTF16_getChar_49 : decode b_StringUTF16_getChar 49 = .ok (.sipush 255, 3) := by decide +kernel
theorem d_StringUTF16_getChar_52 : decode b_StringUTF16_getChar 52 = .ok (.iand, 1) := by decide +kernel
theorem d_StringUTF16_getChar_53 : decode b_StringUTF16_getChar 53 = .ok (.getstatic 63, 3) := by decide +kernel
theorem d_StringUTF16_getChar_56 : decode b_StringUTF16_getChar 56 = .ok (.ishl, 1) := by decide +kernel
theorem d_StringUTF16_getChar_57 : decode b_StringUTF16_getChar 57 = .ok (.ior, 1) := by decide +kernel
theorem d_StringUTF16_getChar_58 : decode b_StringUTF16_getChar 58 = .ok (.i2c, 1) := by decide +kernel
theorem d_StringUTF16_getChar_59 : decode b_StringUTF16_getChar 59 = .ok (.ireturn, 1) := by decide +kernel
abbrev b_Integer_intValue : ByteArray := prog_25_method_27_code
abbrev y_Integer_intValue : MethodName := ⟨"java/lang/Integer", "intValue", "()I"⟩
theorem d_Integer_intValue_0 : decode b_Integer_intValue 0 = .ok (.aload_n 0, 1) := by decide +kernel
theorem d_Integer_intValue_1 : decode b_Integer_intValue 1 = .ok (.getfield 205, 3) := by decide +kernel
theorem d_Integer_intValue_4 : decode b_Integer_intValue 4 = .ok (.ireturn, 1) := by decide +kernel
