/-! Codes and what decodes from them. Laid by mkbase.py. -/
abbrev b_Row_init : ByteArray := prog_9_method_1_code
abbrev y_Row_init : MethodName := ⟨"ReplacementWriter$Row", "<init>", "(I)V"⟩
theorem d_Row_init_0 : decode b_Row_init 0 = .ok (.aload_n 0, 1) := by decide +kernel
theorem d_Row_init_1 : decode b_Row_init 1 = .ok (.invokespecial 1, 3) := by decide +kernel
theorem d_Row_init_4 : decode b_Row_init 4 = .ok (.aload_n 0, 1) := by decide +kernel
theorem d_Row_init_5 : decode b_Row_init 5 = .ok (.bipush 16, 2) := by decide +kernel
theorem d_Row_init_7 : decode b_Row_init 7 = .ok (.newarray .byte, 2) := by decide +kernel
theorem d_Row_init_9 : decode b_Row_init 9 = .ok (.putfield 9, 3) := by decide +kernel
theorem d_Row_init_12 : decode b_Row_init 12 = .ok (.aload_n 0, 1) := by decide +kernel
theorem d_Row_init_13 : decode b_Row_init 13 = .ok (.iconst 0, 1) := by decide +kernel
theorem d_Row_init_14 : decode b_Row_init 14 = .ok (.putfield 13, 3) := by decide +kernel
theorem d_Row_init_17 : decode b_Row_init 17 = .ok (.aload_n 0, 1) := by decide +kernel
theorem d_Row_init_18 : decode b_Row_init 18 = .ok (.iload_n 1, 1) := by decide +kernel
theorem d_Row_init_19 : decode b_Row_init 19 = .ok (.putfield 17, 3) := by decide +kernel
theorem d_Row_init_22 : decode b_Row_init 22 = .ok (.return_, 1) := by decide +kernel
abbrev b_Groups_init : ByteArray := prog_6_method_1_code
abbrev y_Groups_init : MethodName := ⟨"ReplacementWriter$Groups", "<init>", "()V"⟩
theorem d_Groups_init_0 : decode b_Groups_init 0 = .ok (.aload_n 0, 1) := by decide +kernel
theorem d_Groups_init_1 : decode b_Groups_init 1 = .ok (.invokespecial 3, 3) := by decide +kernel
theorem d_Groups_init_4 : decode b_Groups_init 4 = .ok (.aload_n 0, 1) := by decide +kernel
theorem d_Groups_init_5 : decode b_Groups_init 5 = .ok (.bipush 100, 2) := by decide +kernel
theorem d_Groups_init_7 : decode b_Groups_init 7 = .ok (.anewarray 9, 3) := by decide +kernel
theorem d_Groups_init_10 : decode b_Groups_init 10 = .ok (.putfield 11, 3) := by decide +kernel
theorem d_Groups_init_13 : decode b_Groups_init 13 = .ok (.aload_n 0, 1) := by decide +kernel
theorem d_Groups_init_14 : decode b_Groups_init 14 = .ok (.bipush 100, 2) := by decide +kernel
theorem d_Groups_init_16 : decode b_Groups_init 16 = .ok (.newarray .boolean, 2) := by decide +kernel
theorem d_Groups_init_18 : decode b_Groups_init 18 = .ok (.putfield 17, 3) := by decide +kernel
theorem d_Groups_init_21 : decode b_Groups_init 21 = .ok (.aload_n 0, 1) := by decide +kernel
theorem d_Groups_init_22 : decode b_Groups_init 22 = .ok (.new 21, 3) := by decide +kernel
theorem d_Groups_init_25 : decode b_Groups_init 25 = .ok (.dup, 1) := by decide +kernel
theorem d_Groups_init_26 : decode b_Groups_init 26 = .ok (.invokespecial 23, 3) := by decide +kernel
theorem d_Groups_init_29 : decode b_Groups_init 29 = .ok (.putfield 24, 3) := by decide +kernel
theorem d_Groups_init_32 : decode b_Groups_init 32 = .ok (.aload_n 0, 1) := by decide +kernel
theorem d_Groups_init_33 : decode b_Groups_init 33 = .ok (.new 9, 3) := by decide +kernel
theorem d_Groups_init_36 : decode b_Groups_init 36 = .ok (.dup, 1) := by decide +kernel
theorem d_Groups_init_37 : decode b_Groups_init 37 = .ok (.ldc 28, 2) := by decide +kernel
theorem d_Groups_init_39 : decode b_Groups_init 39 = .ok (.invokespecial 29, 3) := by decide +kernel
theorem d_Groups_init_42 : decode b_Groups_init 42 = .ok (.putfield 32, 3) := by decide +kernel
theorem d_Groups_init_45 : decode b_Groups_init 45 = .ok (.aload_n 0, 1) := by decide +kernel
theorem d_Groups_init_46 : decode b_Groups_init 46 = .ok (.iconst 0, 1) := by decide +kernel
theorem d_Groups_init_47 : decode b_Groups_init 47 = .ok (.putfield 36, 3) := by decide +kernel
theorem d_Groups_init_50 : decode b_Groups_init 50 = .ok (.aload_n 0, 1) := by decide +kernel
theorem d_Groups_init_51 : decode b_Groups_init 51 = .ok (.iconst 0, 1) := by decide +kernel
theorem d_Groups_init_52 : decode b_Groups_init 52 = .ok (.putfield 40, 3) := by decide +kernel
theorem d_Groups_init_55 : decode b_Groups_init 55 = .ok (.iconst 0, 1) := by decide +kernel
theorem d_Groups_init_56 : decode b_Groups_init 56 = .ok (.istore_n 1, 1) := by decide +kernel
theorem d_Groups_init_57 : decode b_Groups_init 57 = .ok (.iload_n 1, 1) := by decide +kernel
theorem d_Groups_init_58 : decode b_Groups_init 58 = .ok (.aload_n 0, 1) := by decide +kernel
theorem d_Groups_init_59 : decode b_Groups_init 59 = .ok (.getfield 11, 3) := by decide +kernel
theorem d_Groups_init_62 : decode b_Groups_init 62 = .ok (.arraylength, 1) := by decide +kernel
theorem d_Groups_init_63 : decode b_Groups_init 63 = .ok (.if_icmp .ge 24, 3) := by decide +kernel
theorem d_Groups_init_66 : decode b_Groups_init 66 = .ok (.aload_n 0, 1) := by decide +kernel
theorem d_Groups_init_67 : decode b_Groups_init 67 = .ok (.getfield 11, 3) := by decide +kernel
theorem d_Groups_init_70 : decode b_Groups_init 70 = .ok (.iload_n 1, 1) := by decide +kernel
theorem d_Groups_init_71 : decode b_Groups_init 71 = .ok (.new 9, 3) := by decide +kernel
theorem d_Groups_init_74 : decode b_Groups_init 74 = .ok (.dup, 1) := by decide +kernel
theorem d_Groups_init_75 : decode b_Groups_init 75 = .ok (.ldc 28, 2) := by decide +kernel
theorem d_Groups_init_77 : decode b_Groups_init 77 = .ok (.invokespecial 29, 3) := by decide +kernel
theorem d_Groups_init_80 : decode b_Groups_init 80 = .ok (.aastore, 1) := by decide +kernel
theorem d_Groups_init_81 : decode b_Groups_init 81 = .ok (.iinc 1 1, 3) := by decide +kernel
theorem d_Groups_init_84 : decode b_Groups_init 84 = .ok (.goto (-27), 3) := by decide +kernel
theorem d_Groups_init_87 : decode b_Groups_init 87 = .ok (.return_, 1) := by decide +kernel
abbrev b_Encoding_init : ByteArray := prog_4_method_1_code
abbrev y_Encoding_init : MethodName := ⟨"ReplacementWriter$Encoding", "<init>", "(Z)V"⟩
theorem d_Encoding_init_0 : decode b_Encoding_init 0 = .ok (.aload_n 0, 1) := by decide +kernel
theorem d_Encoding_init_1 : decode b_Encoding_init 1 = .ok (.invokespecial 1, 3) := by decide +kernel
theorem d_Encoding_init_4 : decode b_Encoding_init 4 = .ok (.aload_n 0, 1) := by decide +kernel
theorem d_Encoding_init_5 : decode b_Encoding_init 5 = .ok (.iload_n 1, 1) := by decide +kernel
theorem d_Encoding_init_6 : decode b_Encoding_init 6 = .ok (.putfield 7, 3) := by decide +kernel
theorem d_Encoding_init_9 : decode b_Encoding_init 9 = .ok (.return_, 1) := by decide +kernel
abbrev b_Cases_init : ByteArray := prog_3_method_1_code
abbrev y_Cases_init : MethodName := ⟨"ReplacementWriter$Cases", "<init>", "(ZZ)V"⟩
theorem d_Cases_init_0 : decode b_Cases_init 0 = .ok (.aload_n 0, 1) := by decide +kernel
theorem d_Cases_init_1 : decode b_Cases_init 1 = .ok (.invokespecial 3, 3) := by decide +kernel
theorem d_Cases_init_4 : decode b_Cases_init 4 = .ok (.aload_n 0, 1) := by decide +kernel
theorem d_Cases_init_5 : decode b_Cases_init 5 = .ok (.iload_n 1, 1) := by decide +kernel
theorem d_Cases_init_6 : decode b_Cases_init 6 = .ok (.ifCond .eq 10, 3) := by decide +kernel
theorem d_Cases_init_9 : decode b_Cases_init 9 = .ok (.getstatic 9, 3) := by decide +kernel
theorem d_Cases_init_12 : decode b_Cases_init 12 = .ok (.arraylength, 1) := by decide +kernel
theorem d_Cases_init_13 : decode b_Cases_init 13 = .ok (.goto 13, 3) := by decide +kernel
theorem d_Cases_init_16 : decode b_Cases_init 16 = .ok (.iload_n 2, 1) := by decide +kernel
theorem d_Cases_init_17 : decode b_Cases_init 17 = .ok (.ifCond .eq 8, 3) := by decide +kernel
theorem d_Cases_init_20 : decode b_Cases_init 20 = .ok (.bipush 15, 2) := by decide +kernel
theorem d_Cases_init_22 : decode b_Cases_init 22 = .ok (.goto 4, 3) := by decide +kernel
theorem d_Cases_init_25 : decode b_Cases_init 25 = .ok (.iconst 5, 1) := by decide +kernel
theorem d_Cases_init_26 : decode b_Cases_init 26 = .ok (.putfield 13, 3) := by decide +kernel
theorem d_Cases_init_29 : decode b_Cases_init 29 = .ok (.return_, 1) := by decide +kernel
abbrev b_Output_init : ByteArray := prog_8_method_1_code
abbrev y_Output_init : MethodName := ⟨"ReplacementWriter$Output", "<init>", "(LReplacementWriter$Encoding;LReplacementWriter$Cases;)V"⟩
theorem d_Output_init_0 : decode b_Output_init 0 = .ok (.aload_n 0, 1) := by decide +kernel
theorem d_Output_init_1 : decode b_Output_init 1 = .ok (.invokespecial 3, 3) := by decide +kernel
theorem d_Output_init_4 : decode b_Output_init 4 = .ok (.aload_n 0, 1) := by decide +kernel
theorem d_Output_init_5 : decode b_Output_init 5 = .ok (.new 9, 3) := by decide +kernel
theorem d_Output_init_8 : decode b_Output_init 8 = .ok (.dup, 1) := by decide +kernel
theorem d_Output_init_9 : decode b_Output_init 9 = .ok (.ldc 11, 2) := by decide +kernel
theorem d_Output_init_11 : decode b_Output_init 11 = .ok (.invokespecial 12, 3) := by decide +kernel
theorem d_Output_init_14 : decode b_Output_init 14 = .ok (.putfield 15, 3) := by decide +kernel
theorem d_Output_init_17 : decode b_Output_init 17 = .ok (.aload_n 0, 1) := by decide +kernel
theorem d_Output_init_18 : decode b_Output_init 18 = .ok (.getstatic 21, 3) := by decide +kernel
theorem d_Output_init_21 : decode b_Output_init 21 = .ok (.putfield 27, 3) := by decide +kernel
theorem d_Output_init_24 : decode b_Output_init 24 = .ok (.aload_n 0, 1) := by decide +kernel
theorem d_Output_init_25 : decode b_Output_init 25 = .ok (.getstatic 21, 3) := by decide +kernel
theorem d_Output_init_28 : decode b_Output_init 28 = .ok (.putfield 30, 3) := by decide +kernel
theorem d_Output_init_31 : decode b_Output_init 31 = .ok (.aload_n 0, 1) := by decide +kernel
theorem d_Output_init_32 : decode b_Output_init 32 = .ok (.iconst 0, 1) := by decide +kernel
theorem d_Output_init_33 : decode b_Output_init 33 = .ok (.putfield 33, 3) := by decide +kernel
theorem d_Output_init_36 : decode b_Output_init 36 = .ok (.aload_n 0, 1) := by decide +kernel
theorem d_Output_init_37 : decode b_Output_init 37 = .ok (.aload_n 1, 1) := by decide +kernel
theorem d_Output_init_38 : decode b_Output_init 38 = .ok (.putfield 37, 3) := by decide +kernel
theorem d_Output_init_41 : decode b_Output_init 41 = .ok (.aload_n 0, 1) := by decide +kernel
theorem d_Output_init_42 : decode b_Output_init 42 = .ok (.aload_n 2, 1) := by decide +kernel
theorem d_Output_init_43 : decode b_Output_init 43 = .ok (.putfield 41, 3) := by decide +kernel
theorem d_Output_init_46 : decode b_Output_init 46 = .ok (.return_, 1) := by decide +kernel
abbrev b_Row_length : ByteArray := prog_9_method_2_code
abbrev y_Row_length : MethodName := ⟨"ReplacementWriter$Row", "length", "()I"⟩
theorem d_Row_length_0 : decode b_Row_length 0 = .ok (.aload_n 0, 1) := by decide +kernel
theorem d_Row_length_1 : decode b_Row_length 1 = .ok (.getfield 13, 3) := by decide +kernel
theorem d_Row_length_4 : decode b_Row_length 4 = .ok (.ireturn, 1) := by decide +kernel
abbrev b_Output_bytes : ByteArray := prog_8_method_3_code
abbrev y_Output_bytes : MethodName := ⟨"ReplacementWriter$Output", "bytes", "()LReplacementWriter$Row;"⟩
theorem d_Output_bytes_0 : decode b_Output_bytes 0 = .ok (.aload_n 0, 1) := by decide +kernel
theorem d_Output_bytes_1 : decode b_Output_bytes 1 = .ok (.getfield 15, 3) := by decide +kernel
theorem d_Output_bytes_4 : decode b_Output_bytes 4 = .ok (.areturn, 1) := by decide +kernel
abbrev b_Groups_greatest : ByteArray := prog_6_method_3_code
abbrev y_Groups_greatest : MethodName := ⟨"ReplacementWriter$Groups", "greatest", "()I"⟩
theorem d_Groups_greatest_0 : decode b_Groups_greatest 0 = .ok (.aload_n 0, 1) := by decide +kernel
theorem d_Groups_greatest_1 : decode b_Groups_greatest 1 = .ok (.getfield 36, 3) := by decide +kernel
theorem d_Groups_greatest_4 : decode b_Groups_greatest 4 = .ok (.ireturn, 1) := by decide +kernel
abbrev b_Groups_namesGiven : ByteArray := prog_6_method_4_code
abbrev y_Groups_namesGiven : MethodName := ⟨"ReplacementWriter$Groups", "namesGiven", "()I"⟩
theorem d_Groups_namesGiven_0 : decode b_Groups_namesGiven 0 = .ok (.aload_n 0, 1) := by decide +kernel
theorem d_Groups_namesGiven_1 : decode b_Groups_namesGiven 1 = .ok (.getfield 40, 3) := by decide +kernel
theorem d_Groups_namesGiven_4 : decode b_Groups_namesGiven 4 = .ok (.ireturn, 1) := by decide +kernel
abbrev b_Row_add : ByteArray := prog_9_method_4_code
abbrev y_Row_add : MethodName := ⟨"ReplacementWriter$Row", "add", "(I)V"⟩
theorem d_Row_add_0 : decode b_Row_add 0 = .ok (.aload_n 0, 1) := by decide +kernel
theorem d_Row_add_1 : decode b_Row_add 1 = .ok (.getfield 13, 3) := by decide +kernel
theorem d_Row_add_4 : decode b_Row_add 4 = .ok (.aload_n 0, 1) := by decide +kernel
theorem d_Row_add_5 : decode b_Row_add 5 = .ok (.getfield 17, 3) := by decide +kernel
theorem d_Row_add_8 : decode b_Row_add 8 = .ok (.if_icmp .lt 4, 3) := by decide +kernel
theorem d_Row_add_11 : decode b_Row_add 11 = .ok (.return_, 1) := by decide +kernel
theorem d_Row_add_12 : decode b_Row_add 12 = .ok (.aload_n 0, 1) := by decide +kernel
theorem d_Row_add_13 : decode b_Row_add 13 = .ok (.getfield 13, 3) := by decide +kernel
theorem d_Row_add_16 : decode b_Row_add 16 = .ok (.aload_n 0, 1) := by decide +kernel
theorem d_Row_add_17 : decode b_Row_add 17 = .ok (.getfield 9, 3) := by decide +kernel
theorem d_Row_add_20 : decode b_Row_add 20 = .ok (.arraylength, 1) := by decide +kernel
theorem d_Row_add_21 : decode b_Row_add 21 = .ok (.if_icmp .lt 21, 3) := by decide +kernel
theorem d_Row_add_24 : decode b_Row_add 24 = .ok (.aload_n 0, 1) := by decide +kernel
theorem d_Row_add_25 : decode b_Row_add 25 = .ok (.aload_n 0, 1) := by decide +kernel
theorem d_Row_add_26 : decode b_Row_add 26 = .ok (.getfield 9, 3) := by decide +kernel
theorem d_Row_add_29 : decode b_Row_add 29 = .ok (.iconst 4, 1) := by decide +kernel
theorem d_Row_add_30 : decode b_Row_add 30 = .ok (.aload_n 0, 1) := by decide +kernel
theorem d_Row_add_31 : decode b_Row_add 31 = .ok (.getfield 9, 3) := by decide +kernel
theorem d_Row_add_34 : decode b_Row_add 34 = .ok (.arraylength, 1) := by decide +kernel
theorem d_Row_add_35 : decode b_Row_add 35 = .ok (.imul, 1) := by decide +kernel
theorem d_Row_add_36 : decode b_Row_add 36 = .ok (.invokestatic 20, 3) := by decide +kernel
theorem d_Row_add_39 : decode b_Row_add 39 = .ok (.putfield 9, 3) := by decide +kernel
theorem d_Row_add_42 : decode b_Row_add 42 = .ok (.aload_n 0, 1) := by decide +kernel
theorem d_Row_add_43 : decode b_Row_add 43 = .ok (.getfield 9, 3) := by decide +kernel
theorem d_Row_add_46 : decode b_Row_add 46 = .ok (.aload_n 0, 1) := by decide +kernel
theorem d_Row_add_47 : decode b_Row_add 47 = .ok (.getfield 13, 3) := by decide +kernel
theorem d_Row_add_50 : decode b_Row_add 50 = .ok (.iload_n 1, 1) := by decide +kernel
theorem d_Row_add_51 : decode b_Row_add 51 = .ok (.i2b, 1) := by decide +kernel
theorem d_Row_add_52 : decode b_Row_add 52 = .ok (.bastore, 1) := by decide +kernel
theorem d_Row_add_53 : decode b_Row_add 53 = .ok (.aload_n 0, 1) := by decide +kernel
theorem d_Row_add_54 : decode b_Row_add 54 = .ok (.dup, 1) := by decide +kernel
theorem d_Row_add_55 : decode b_Row_add 55 = .ok (.getfield 13, 3) := by decide +kernel
theorem d_Row_add_58 : decode b_Row_add 58 = .ok (.iconst 1, 1) := by decide +kernel
theorem d_Row_add_59 : decode b_Row_add 59 = .ok (.iadd, 1) := by decide +kernel
theorem d_Row_add_60 : decode b_Row_add 60 = .ok (.putfield 13, 3) := by decide +kernel
theorem d_Row_add_63 : decode b_Row_add 63 = .ok (.return_, 1) := by decide +kernel
abbrev b_Row_cutTo : ByteArray := prog_9_method_5_code
abbrev y_Row_cutTo : MethodName := ⟨"ReplacementWriter$Row", "cutTo", "(I)V"⟩
theorem d_Row_cutTo_0 : decode b_Row_cutTo 0 = .ok (.iload_n 1, 1) := by decide +kernel
theorem d_Row_cutTo_1 : decode b_Row_cutTo 1 = .ok (.ifCond .lt 16, 3) := by decide +kernel
theorem d_Row_cutTo_4 : decode b_Row_cutTo 4 = .ok (.iload_n 1, 1) := by decide +kernel
theorem d_Row_cutTo_5 : decode b_Row_cutTo 5 = .ok (.aload_n 0, 1) := by decide +kernel
theorem d_Row_cutTo_6 : decode b_Row_cutTo 6 = .ok (.getfield 13, 3) := by decide +kernel
theorem d_Row_cutTo_9 : decode b_Row_cutTo 9 = .ok (.if_icmp .ge 8, 3) := by decide +kernel
theorem d_Row_cutTo_12 : decode b_Row_cutTo 12 = .ok (.aload_n 0, 1) := by decide +kernel
theorem d_Row_cutTo_13 : decode b_Row_cutTo 13 = .ok (.iload_n 1, 1) := by decide +kernel
theorem d_Row_cutTo_14 : decode b_Row_cutTo 14 = .ok (.putfield 13, 3) := by decide +kernel
theorem d_Row_cutTo_17 : decode b_Row_cutTo 17 = .ok (.return_, 1) := by decide +kernel
abbrev b_Groups_startAnew : ByteArray := prog_6_method_2_code
abbrev y_Groups_startAnew : MethodName := ⟨"ReplacementWriter$Groups", "startAnew", "(I)V"⟩
theorem d_Groups_startAnew_0 : decode b_Groups_startAnew 0 = .ok (.aload_n 0, 1) := by decide +kernel
theorem d_Groups_startAnew_1 : decode b_Groups_startAnew 1 = .ok (.iload_n 1, 1) := by decide +kernel
theorem d_Groups_startAnew_2 : decode b_Groups_startAnew 2 = .ok (.putfield 36, 3) := by decide +kernel
theorem d_Groups_startAnew_5 : decode b_Groups_startAnew 5 = .ok (.iconst 0, 1) := by decide +kernel
theorem d_Groups_startAnew_6 : decode b_Groups_startAnew 6 = .ok (.istore_n 2, 1) := by decide +kernel
theorem d_Groups_startAnew_7 : decode b_Groups_startAnew 7 = .ok (.iload_n 2, 1) := by decide +kernel
theorem d_Groups_startAnew_8 : decode b_Groups_startAnew 8 = .ok (.aload_n 0, 1) := by decide +kernel
theorem d_Groups_startAnew_9 : decode b_Groups_startAnew 9 = .ok (.getfield 17, 3) := by decide +kernel
theorem d_Groups_startAnew_12 : decode b_Groups_startAnew 12 = .ok (.arraylength, 1) := by decide +kernel
theorem d_Groups_startAnew_13 : decode b_Groups_startAnew 13 = .ok (.if_icmp .ge 16, 3) := by decide +kernel
theorem d_Groups_startAnew_16 : decode b_Groups_startAnew 16 = .ok (.aload_n 0, 1) := by decide +kernel
theorem d_Groups_startAnew_17 : decode b_Groups_startAnew 17 = .ok (.getfield 17, 3) := by decide +kernel
theorem d_Groups_startAnew_20 : decode b_Groups_startAnew 20 = .ok (.iload_n 2, 1) := by decide +kernel
theorem d_Groups_startAnew_21 : decode b_Groups_startAnew 21 = .ok (.iconst 0, 1) := by decide +kernel
theorem d_Groups_startAnew_22 : decode b_Groups_startAnew 22 = .ok (.bastore, 1) := by decide +kernel
theorem d_Groups_startAnew_23 : decode b_Groups_startAnew 23 = .ok (.iinc 2 1, 3) := by decide +kernel
theorem d_Groups_startAnew_26 : decode b_Groups_startAnew 26 = .ok (.goto (-19), 3) := by decide +kernel
theorem d_Groups_startAnew_29 : decode b_Groups_startAnew 29 = .ok (.aload_n 0, 1) := by decide +kernel
theorem d_Groups_startAnew_30 : decode b_Groups_startAnew 30 = .ok (.getfield 24, 3) := by decide +kernel
theorem d_Groups_startAnew_33 : decode b_Groups_startAnew 33 = .ok (.invokevirtual 43, 3) := by decide +kernel
theorem d_Groups_startAnew_36 : decode b_Groups_startAnew 36 = .ok (.aload_n 0, 1) := by decide +kernel
theorem d_Groups_startAnew_37 : decode b_Groups_startAnew 37 = .ok (.iconst 0, 1) := by decide +kernel
theorem d_Groups_startAnew_38 : decode b_Groups_startAnew 38 = .ok (.putfield 40, 3) := by decide +kernel
theorem d_Groups_startAnew_41 : decode b_Groups_startAnew 41 = .ok (.aload_n 0, 1) := by decide +kernel
theorem d_Groups_startAnew_42 : decode b_Groups_startAnew 42 = .ok (.getfield 32, 3) := by decide +kernel
theorem d_Groups_startAnew_45 : decode b_Groups_startAnew 45 = .ok (.iconst 0, 1) := by decide +kernel
theorem d_Groups_startAnew_46 : decode b_Groups_startAnew 46 = .ok (.invokevirtual 46, 3) := by decide +kernel
theorem d_Groups_startAnew_49 : decode b_Groups_startAnew 49 = .ok (.return_, 1) := by decide +kernel
abbrev b_Groups_has : ByteArray := prog_6_method_6_code
abbrev y_Groups_has : MethodName := ⟨"ReplacementWriter$Groups", "has", "(I)Z"⟩
theorem d_Groups_has_0 : decode b_Groups_has 0 = .ok (.iload_n 1, 1) := by decide +kernel
theorem d_Groups_has_1 : decode b_Groups_has 1 = .ok (.ifCond .lt 15, 3) := by decide +kernel
theorem d_Groups_has_4 : decode b_Groups_has 4 = .ok (.iload_n 1, 1) := by decide +kernel
theorem d_Groups_has_5 : decode b_Groups_has 5 = .ok (.aload_n 0, 1) := by decide +kernel
theorem d_Groups_has_6 : decode b_Groups_has 6 = .ok (.getfield 36, 3) := by decide +kernel
theorem d_Groups_has_9 : decode b_Groups_has 9 = .ok (.if_icmp .gt 7, 3) := by decide +kernel
theorem d_Groups_has_12 : decode b_Groups_has 12 = .ok (.iconst 1, 1) := by decide +kernel
theorem d_Groups_has_13 : decode b_Groups_has 13 = .ok (.goto 4, 3) := by decide +kernel
theorem d_Groups_has_16 : decode b_Groups_has 16 = .ok (.iconst 0, 1) := by decide +kernel
theorem d_Groups_has_17 : decode b_Groups_has 17 = .ok (.ireturn, 1) := by decide +kernel
abbrev b_Encoding_firstBad : ByteArray := prog_4_method_6_code
abbrev y_Encoding_firstBad : MethodName := ⟨"ReplacementWriter$Encoding", "firstBad", "(LReplacementWriter$Row;)I"⟩
theorem d_Encoding_firstBad_0 : decode b_Encoding_firstBad 0 = .ok (.aload_n 0, 1) := by decide +kernel
theorem d_Encoding_firstBad_1 : decode b_Encoding_firstBad 1 = .ok (.getfield 7, 3) := by decide +kernel
theorem d_Encoding_firstBad_4 : decode b_Encoding_firstBad 4 = .ok (.ifCond .ne 5, 3) := by decide +kernel
theorem d_Encoding_firstBad_7 : decode b_Encoding_firstBad 7 = .ok (.iconst (-1), 1) := by decide +kernel
theorem d_Encoding_firstBad_8 : decode b_Encoding_firstBad 8 = .ok (.ireturn, 1) := by decide +kernel
theorem d_Encoding_firstBad_9 : decode b_Encoding_firstBad 9 = .ok (.iconst 0, 1) := by decide +kernel
theorem d_Encoding_firstBad_10 : decode b_Encoding_firstBad 10 = .ok (.istore_n 2, 1) := by decide +kernel
theorem d_Encoding_firstBad_11 : decode b_Encoding_firstBad 11 = .ok (.iload_n 2, 1) := by decide +kernel
theorem d_Encoding_firstBad_12 : decode b_Encoding_firstBad 12 = .ok (.aload_n 1, 1) := by decide +kernel
theorem d_Encoding_firstBad_13 : decode b_Encoding_firstBad 13 = .ok (.invokevirtual 31, 3) := by decide +kernel
theorem d_Encoding_firstBad_16 : decode b_Encoding_firstBad 16 = .ok (.if_icmp .ge 33, 3) := by decide +kernel
theorem d_Encoding_firstBad_19 : decode b_Encoding_firstBad 19 = .ok (.aload_n 0, 1) := by decide +kernel
theorem d_Encoding_firstBad_20 : decode b_Encoding_firstBad 20 = .ok (.aload_n 1, 1) := by decide +kernel
theorem d_Encoding_firstBad_21 : decode b_Encoding_firstBad 21 = .ok (.iload_n 2, 1) := by decide +kernel
theorem d_Encoding_firstBad_22 : decode b_Encoding_firstBad 22 = .ok (.invokevirtual 35, 3) := by decide +kernel
theorem d_Encoding_firstBad_25 : decode b_Encoding_firstBad 25 = .ok (.ifCond .ne 5, 3) := by decide +kernel
theorem d_Encoding_firstBad_28 : decode b_Encoding_firstBad 28 = .ok (.iload_n 2, 1) := by decide +kernel
theorem d_Encoding_firstBad_29 : decode b_Encoding_firstBad 29 = .ok (.ireturn, 1) := by decide +kernel
theorem d_Encoding_firstBad_30 : decode b_Encoding_firstBad 30 = .ok (.iload_n 2, 1) := by decide +kernel
theorem d_Encoding_firstBad_31 : decode b_Encoding_firstBad 31 = .ok (.iconst 1, 1) := by decide +kernel
theorem d_Encoding_firstBad_32 : decode b_Encoding_firstBad 32 = .ok (.aload_n 0, 1) := by decide +kernel
theorem d_Encoding_firstBad_33 : decode b_Encoding_firstBad 33 = .ok (.aload_n 1, 1) := by decide +kernel
theorem d_Encoding_firstBad_34 : decode b_Encoding_firstBad 34 = .ok (.iload_n 2, 1) := by decide +kernel
theorem d_Encoding_firstBad_35 : decode b_Encoding_firstBad 35 = .ok (.invokevirtual 22, 3) := by decide +kernel
theorem d_Encoding_firstBad_38 : decode b_Encoding_firstBad 38 = .ok (.invokevirtual 28, 3) := by decide +kernel
theorem d_Encoding_firstBad_41 : decode b_Encoding_firstBad 41 = .ok (.invokestatic 39, 3) := by decide +kernel
theorem d_Encoding_firstBad_44 : decode b_Encoding_firstBad 44 = .ok (.iadd, 1) := by decide +kernel
theorem d_Encoding_firstBad_45 : decode b_Encoding_firstBad 45 = .ok (.istore_n 2, 1) := by decide +kernel
theorem d_Encoding_firstBad_46 : decode b_Encoding_firstBad 46 = .ok (.goto (-35), 3) := by decide +kernel
theorem d_Encoding_firstBad_49 : decode b_Encoding_firstBad 49 = .ok (.iconst (-1), 1) := by decide +kernel
theorem d_Encoding_firstBad_50 : decode b_Encoding_firstBad 50 = .ok (.ireturn, 1) := by decide +kernel
abbrev b_Encoding_isGood : ByteArray := prog_4_method_7_code
abbrev y_Encoding_isGood : MethodName := ⟨"ReplacementWriter$Encoding", "isGood", "(LReplacementWriter$Row;I)Z"⟩
theorem d_Encoding_isGood_0 : decode b_Encoding_isGood 0 = .ok (.aload_n 0, 1) := by decide +kernel
theorem d_Encoding_isGood_1 : decode b_Encoding_isGood 1 = .ok (.aload_n 1, 1) := by decide +kernel
theorem d_Encoding_isGood_2 : decode b_Encoding_isGood 2 = .ok (.iload_n 2, 1) := by decide +kernel
theorem d_Encoding_isGood_3 : decode b_Encoding_isGood 3 = .ok (.invokevirtual 22, 3) := by decide +kernel
theorem d_Encoding_isGood_6 : decode b_Encoding_isGood 6 = .ok (.invokevirtual 28, 3) := by decide +kernel
theorem d_Encoding_isGood_9 : decode b_Encoding_isGood 9 = .ok (.istore_n 3, 1) := by decide +kernel
theorem d_Encoding_isGood_10 : decode b_Encoding_isGood 10 = .ok (.iload_n 3, 1) := by decide +kernel
theorem d_Encoding_isGood_11 : decode b_Encoding_isGood 11 = .ok (.ifCond .ne 5, 3) := by decide +kernel
theorem d_Encoding_isGood_14 : decode b_Encoding_isGood 14 = .ok (.iconst 0, 1) := by decide +kernel
theorem d_Encoding_isGood_15 : decode b_Encoding_isGood 15 = .ok (.ireturn, 1) := by decide +kernel
theorem d_Encoding_isGood_16 : decode b_Encoding_isGood 16 = .ok (.iconst 1, 1) := by decide +kernel
theorem d_Encoding_isGood_17 : decode b_Encoding_isGood 17 = .ok (.istore 4, 2) := by decide +kernel
theorem d_Encoding_isGood_19 : decode b_Encoding_isGood 19 = .ok (.iload 4, 2) := by decide +kernel
theorem d_Encoding_isGood_21 : decode b_Encoding_isGood 21 = .ok (.iload_n 3, 1) := by decide +kernel
theorem d_Encoding_isGood_22 : decode b_Encoding_isGood 22 = .ok (.if_icmp .ge 29, 3) := by decide +kernel
theorem d_Encoding_isGood_25 : decode b_Encoding_isGood 25 = .ok (.aload_n 1, 1) := by decide +kernel
theorem d_Encoding_isGood_26 : decode b_Encoding_isGood 26 = .ok (.iload_n 2, 1) := by decide +kernel
theorem d_Encoding_isGood_27 : decode b_Encoding_isGood 27 = .ok (.iload 4, 2) := by decide +kernel
theorem d_Encoding_isGood_29 : decode b_Encoding_isGood 29 = .ok (.iadd, 1) := by decide +kernel
theorem d_Encoding_isGood_30 : decode b_Encoding_isGood 30 = .ok (.invokevirtual 22, 3) := by decide +kernel
theorem d_Encoding_isGood_33 : decode b_Encoding_isGood 33 = .ok (.sipush 192, 3) := by decide +kernel
theorem d_Encoding_isGood_36 : decode b_Encoding_isGood 36 = .ok (.iand, 1) := by decide +kernel
theorem d_Encoding_isGood_37 : decode b_Encoding_isGood 37 = .ok (.sipush 128, 3) := by decide +kernel
theorem d_Encoding_isGood_40 : decode b_Encoding_isGood 40 = .ok (.if_icmp .eq 5, 3) := by decide +kernel
theorem d_Encoding_isGood_43 : decode b_Encoding_isGood 43 = .ok (.iconst 0, 1) := by decide +kernel
theorem d_Encoding_isGood_44 : decode b_Encoding_isGood 44 = .ok (.ireturn, 1) := by decide +kernel
theorem d_Encoding_isGood_45 : decode b_Encoding_isGood 45 = .ok (.iinc 4 1, 3) := by decide +kernel
theorem d_Encoding_isGood_48 : decode b_Encoding_isGood 48 = .ok (.goto (-29), 3) := by decide +kernel
theorem d_Encoding_isGood_51 : decode b_Encoding_isGood 51 = .ok (.aload_n 0, 1) := by decide +kernel
theorem d_Encoding_isGood_52 : decode b_Encoding_isGood 52 = .ok (.aload_n 1, 1) := by decide +kernel
theorem d_Encoding_isGood_53 : decode b_Encoding_isGood 53 = .ok (.iload_n 2, 1) := by decide +kernel
theorem d_Encoding_isGood_54 : decode b_Encoding_isGood 54 = .ok (.invokevirtual 45, 3) := by decide +kernel
theorem d_Encoding_isGood_57 : decode b_Encoding_isGood 57 = .ok (.istore 4, 2) := by decide +kernel
theorem d_Encoding_isGood_59 : decode b_Encoding_isGood 59 = .ok (.aload_n 0, 1) := by decide +kernel
theorem d_Encoding_isGood_60 : decode b_Encoding_isGood 60 = .ok (.iload 4, 2) := by decide +kernel
theorem d_Encoding_isGood_62 : decode b_Encoding_isGood 62 = .ok (.i2l, 1) := by decide +kernel
theorem d_Encoding_isGood_63 : decode b_Encoding_isGood 63 = .ok (.invokevirtual 49, 3) := by decide +kernel
theorem d_Encoding_isGood_66 : decode b_Encoding_isGood 66 = .ok (.ifCond .eq 17, 3) := by decide +kernel
theorem d_Encoding_isGood_69 : decode b_Encoding_isGood 69 = .ok (.aload_n 0, 1) := by decide +kernel
theorem d_Encoding_isGood_70 : decode b_Encoding_isGood 70 = .ok (.iload 4, 2) := by decide +kernel
theorem d_Encoding_isGood_72 : decode b_Encoding_isGood 72 = .ok (.invokevirtual 53, 3) := by decide +kernel
theorem d_Encoding_isGood_75 : decode b_Encoding_isGood 75 = .ok (.iload_n 3, 1) := by decide +kernel
theorem d_Encoding_isGood_76 : decode b_Encoding_isGood 76 = .ok (.if_icmp .ne 7, 3) := by decide +kernel
theorem d_Encoding_isGood_79 : decode b_Encoding_isGood 79 = .ok (.iconst 1, 1) := by decide +kernel
theorem d_Encoding_isGood_80 : decode b_Encoding_isGood 80 = .ok (.goto 4, 3) := by decide +kernel
theorem d_Encoding_isGood_83 : decode b_Encoding_isGood 83 = .ok (.iconst 0, 1) := by decide +kernel
theorem d_Encoding_isGood_84 : decode b_Encoding_isGood 84 = .ok (.ireturn, 1) := by decide +kernel
abbrev b_Row_at : ByteArray := prog_9_method_3_code
abbrev y_Row_at : MethodName := ⟨"ReplacementWriter$Row", "at", "(I)I"⟩
theorem d_Row_at_0 : decode b_Row_at 0 = .ok (.iload_n 1, 1) := by decide +kernel
theorem d_Row_at_1 : decode b_Row_at 1 = .ok (.ifCond .lt 24, 3) := by decide +kernel
theorem d_Row_at_4 : decode b_Row_at 4 = .ok (.iload_n 1, 1) := by decide +kernel
theorem d_Row_at_5 : decode b_Row_at 5 = .ok (.aload_n 0, 1) := by decide +kernel
theorem d_Row_at_6 : decode b_Row_at 6 = .ok (.getfield 13, 3) := by decide +kernel
theorem d_Row_at_9 : decode b_Row_at 9 = .ok (.if_icmp .ge 16, 3) := by decide +kernel
theorem d_Row_at_12 : decode b_Row_at 12 = .ok (.aload_n 0, 1) := by decide +kernel
theorem d_Row_at_13 : decode b_Row_at 13 = .ok (.getfield 9, 3) := by decide +kernel
theorem d_Row_at_16 : decode b_Row_at 16 = .ok (.iload_n 1, 1) := by decide +kernel
theorem d_Row_at_17 : decode b_Row_at 17 = .ok (.baload, 1) := by decide +kernel
theorem d_Row_at_18 : decode b_Row_at 18 = .ok (.sipush 255, 3) := by decide +kernel
theorem d_Row_at_21 : decode b_Row_at 21 = .ok (.iand, 1) := by decide +kernel
theorem d_Row_at_22 : decode b_Row_at 22 = .ok (.goto 4, 3) := by decide +kernel
theorem d_Row_at_25 : decode b_Row_at 25 = .ok (.iconst (-1), 1) := by decide +kernel
theorem d_Row_at_26 : decode b_Row_at 26 = .ok (.ireturn, 1) := by decide +kernel
abbrev b_Encoding_lengthBehind : ByteArray := prog_4_method_4_code
abbrev y_Encoding_lengthBehind : MethodName := ⟨"ReplacementWriter$Encoding", "lengthBehind", "(I)I"⟩
theorem d_Encoding_lengthBehind_0 : decode b_Encoding_lengthBehind 0 = .ok (.aload_n 0, 1) := by decide +kernel
theorem d_Encoding_lengthBehind_1 : decode b_Encoding_lengthBehind 1 = .ok (.getfield 7, 3) := by decide +kernel
theorem d_Encoding_lengthBehind_4 : decode b_Encoding_lengthBehind 4 = .ok (.ifCond .eq 10, 3) := by decide +kernel
theorem d_Encoding_lengthBehind_7 : decode b_Encoding_lengthBehind 7 = .ok (.iload_n 1, 1) := by decide +kernel
theorem d_Encoding_lengthBehind_8 : decode b_Encoding_lengthBehind 8 = .ok (.sipush 128, 3) := by decide +kernel
theorem d_Encoding_lengthBehind_11 : decode b_Encoding_lengthBehind 11 = .ok (.if_icmp .ge 5, 3) := by decide +kernel
theorem d_Encoding_lengthBehind_14 : decode b_Encoding_lengthBehind 14 = .ok (.iconst 1, 1) := by decide +kernel
theorem d_Encoding_lengthBehind_15 : decode b_Encoding_lengthBehind 15 = .ok (.ireturn, 1) := by decide +kernel
theorem d_Encoding_lengthBehind_16 : decode b_Encoding_lengthBehind 16 = .ok (.iload_n 1, 1) := by decide +kernel
theorem d_Encoding_lengthBehind_17 : decode b_Encoding_lengthBehind 17 = .ok (.sipush 194, 3) := by decide +kernel
theorem d_Encoding_lengthBehind_20 : decode b_Encoding_lengthBehind 20 = .ok (.if_icmp .lt 10, 3) := by decide +kernel
theorem d_Encoding_lengthBehind_23 : decode b_Encoding_lengthBehind 23 = .ok (.iload_n 1, 1) := by decide +kernel
theorem d_Encoding_lengthBehind_24 : decode b_Encoding_lengthBehind 24 = .ok (.sipush 244, 3) := by decide +kernel
theorem d_Encoding_lengthBehind_27 : decode b_Encoding_lengthBehind 27 = .ok (.if_icmp .le 5, 3) := by decide +kernel
theorem d_Encoding_lengthBehind_30 : decode b_Encoding_lengthBehind 30 = .ok (.iconst 0, 1) := by decide +kernel
theorem d_Encoding_lengthBehind_31 : decode b_Encoding_lengthBehind 31 = .ok (.ireturn, 1) := by decide +kernel
theorem d_Encoding_lengthBehind_32 : decode b_Encoding_lengthBehind 32 = .ok (.iload_n 1, 1) := by decide +kernel
theorem d_Encoding_lengthBehind_33 : decode b_Encoding_lengthBehind 33 = .ok (.sipush 224, 3) := by decide +kernel
theorem d_Encoding_lengthBehind_36 : decode b_Encoding_lengthBehind 36 = .ok (.if_icmp .ge 5, 3) := by decide +kernel
theorem d_Encoding_lengthBehind_39 : decode b_Encoding_lengthBehind 39 = .ok (.iconst 2, 1) := by decide +kernel
theorem d_Encoding_lengthBehind_40 : decode b_Encoding_lengthBehind 40 = .ok (.ireturn, 1) := by decide +kernel
theorem d_Encoding_lengthBehind_41 : decode b_Encoding_lengthBehind 41 = .ok (.iload_n 1, 1) := by decide +kernel
theorem d_Encoding_lengthBehind_42 : decode b_Encoding_lengthBehind 42 = .ok (.sipush 240, 3) := by decide +kernel
theorem d_Encoding_lengthBehind_45 : decode b_Encoding_lengthBehind 45 = .ok (.if_icmp .ge 7, 3) := by decide +kernel
theorem d_Encoding_lengthBehind_48 : decode b_Encoding_lengthBehind 48 = .ok (.iconst 3, 1) := by decide +kernel
theorem d_Encoding_lengthBehind_49 : decode b_Encoding_lengthBehind 49 = .ok (.goto 4, 3) := by decide +kernel
theorem d_Encoding_lengthBehind_52 : decode b_Encoding_lengthBehind 52 = .ok (.iconst 4, 1) := by decide +kernel
theorem d_Encoding_lengthBehind_53 : decode b_Encoding_lengthBehind 53 = .ok (.ireturn, 1) := by decide +kernel
abbrev b_Encoding_characterAt : ByteArray := prog_4_method_5_code
abbrev y_Encoding_characterAt : MethodName := ⟨"ReplacementWriter$Encoding", "characterAt", "(LReplacementWriter$Row;I)I"⟩
theorem d_Encoding_characterAt_0 : decode b_Encoding_characterAt 0 = .ok (.aload_n 1, 1) := by decide +kernel
theorem d_Encoding_characterAt_1 : decode b_Encoding_characterAt 1 = .ok (.iload_n 2, 1) := by decide +kernel
theorem d_Encoding_characterAt_2 : decode b_Encoding_characterAt 2 = .ok (.invokevirtual 22, 3) := by decide +kernel
theorem d_Encoding_characterAt_5 : decode b_Encoding_characterAt 5 = .ok (.istore_n 3, 1) := by decide +kernel
theorem d_Encoding_characterAt_6 : decode b_Encoding_characterAt 6 = .ok (.aload_n 0, 1) := by decide +kernel
theorem d_Encoding_characterAt_7 : decode b_Encoding_characterAt 7 = .ok (.iload_n 3, 1) := by decide +kernel
theorem d_Encoding_characterAt_8 : decode b_Encoding_characterAt 8 = .ok (.invokevirtual 28, 3) := by decide +kernel
theorem d_Encoding_characterAt_11 : decode b_Encoding_characterAt 11 = .ok (.istore 4, 2) := by decide +kernel
theorem d_Encoding_characterAt_13 : decode b_Encoding_characterAt 13 = .ok (.iload 4, 2) := by decide +kernel
theorem d_Encoding_characterAt_15 : decode b_Encoding_characterAt 15 = .ok (.iconst 2, 1) := by decide +kernel
theorem d_Encoding_characterAt_16 : decode b_Encoding_characterAt 16 = .ok (.if_icmp .ge 5, 3) := by decide +kernel
theorem d_Encoding_characterAt_19 : decode b_Encoding_characterAt 19 = .ok (.iload_n 3, 1) := by decide +kernel
theorem d_Encoding_characterAt_20 : decode b_Encoding_characterAt 20 = .ok (.ireturn, 1) := by decide +kernel
theorem d_Encoding_characterAt_21 : decode b_Encoding_characterAt 21 = .ok (.iload_n 3, 1) := by decide +kernel
theorem d_Encoding_characterAt_22 : decode b_Encoding_characterAt 22 = .ok (.bipush 127, 2) := by decide +kernel
theorem d_Encoding_characterAt_24 : decode b_Encoding_characterAt 24 = .ok (.iload 4, 2) := by decide +kernel
theorem d_Encoding_characterAt_26 : decode b_Encoding_characterAt 26 = .ok (.ishr, 1) := by decide +kernel
theorem d_Encoding_characterAt_27 : decode b_Encoding_characterAt 27 = .ok (.iand, 1) := by decide +kernel
theorem d_Encoding_characterAt_28 : decode b_Encoding_characterAt 28 = .ok (.istore 5, 2) := by decide +kernel
theorem d_Encoding_characterAt_30 : decode b_Encoding_characterAt 30 = .ok (.iconst 1, 1) := by decide +kernel
theorem d_Encoding_characterAt_31 : decode b_Encoding_characterAt 31 = .ok (.istore 6, 2) := by decide +kernel
theorem d_Encoding_characterAt_33 : decode b_Encoding_characterAt 33 = .ok (.iload 6, 2) := by decide +kernel
theorem d_Encoding_characterAt_35 : decode b_Encoding_characterAt 35 = .ok (.iload 4, 2) := by decide +kernel
theorem d_Encoding_characterAt_37 : decode b_Encoding_characterAt 37 = .ok (.if_icmp .ge 28, 3) := by decide +kernel
theorem d_Encoding_characterAt_40 : decode b_Encoding_characterAt 40 = .ok (.iload 5, 2) := by decide +kernel
theorem d_Encoding_characterAt_42 : decode b_Encoding_characterAt 42 = .ok (.bipush 6, 2) := by decide +kernel
theorem d_Encoding_characterAt_44 : decode b_Encoding_characterAt 44 = .ok (.ishl, 1) := by decide +kernel
theorem d_Encoding_characterAt_45 : decode b_Encoding_characterAt 45 = .ok (.aload_n 1, 1) := by decide +kernel
theorem d_Encoding_characterAt_46 : decode b_Encoding_characterAt 46 = .ok (.iload_n 2, 1) := by decide +kernel
theorem d_Encoding_characterAt_47 : decode b_Encoding_characterAt 47 = .ok (.iload 6, 2) := by decide +kernel
theorem d_Encoding_characterAt_49 : decode b_Encoding_characterAt 49 = .ok (.iadd, 1) := by decide +kernel
theorem d_Encoding_characterAt_50 : decode b_Encoding_characterAt 50 = .ok (.invokevirtual 22, 3) := by decide +kernel
theorem d_Encoding_characterAt_53 : decode b_Encoding_characterAt 53 = .ok (.bipush 63, 2) := by decide +kernel
theorem d_Encoding_characterAt_55 : decode b_Encoding_characterAt 55 = .ok (.iand, 1) := by decide +kernel
theorem d_Encoding_characterAt_56 : decode b_Encoding_characterAt 56 = .ok (.ior, 1) := by decide +kernel
theorem d_Encoding_characterAt_57 : decode b_Encoding_characterAt 57 = .ok (.istore 5, 2) := by decide +kernel
theorem d_Encoding_characterAt_59 : decode b_Encoding_characterAt 59 = .ok (.iinc 6 1, 3) := by decide +kernel
theorem d_Encoding_characterAt_62 : decode b_Encoding_characterAt 62 = .ok (.goto (-29), 3) := by decide +kernel
theorem d_Encoding_characterAt_65 : decode b_Encoding_characterAt 65 = .ok (.iload 5, 2) := by decide +kernel
theorem d_Encoding_characterAt_67 : decode b_Encoding_characterAt 67 = .ok (.ireturn, 1) := by decide +kernel
abbrev b_Encoding_exists : ByteArray := prog_4_method_2_code
abbrev y_Encoding_exists : MethodName := ⟨"ReplacementWriter$Encoding", "exists", "(J)Z"⟩
theorem d_Encoding_exists_0 : decode b_Encoding_exists 0 = .ok (.aload_n 0, 1) := by decide +kernel
theorem d_Encoding_exists_1 : decode b_Encoding_exists 1 = .ok (.getfield 7, 3) := by decide +kernel
theorem d_Encoding_exists_4 : decode b_Encoding_exists 4 = .ok (.ifCond .ne 23, 3) := by decide +kernel
theorem d_Encoding_exists_7 : decode b_Encoding_exists 7 = .ok (.lload_n 1, 1) := by decide +kernel
theorem d_Encoding_exists_8 : decode b_Encoding_exists 8 = .ok (.lconst 0, 1) := by decide +kernel
theorem d_Encoding_exists_9 : decode b_Encoding_exists 9 = .ok (.lcmp, 1) := by decide +kernel
theorem d_Encoding_exists_10 : decode b_Encoding_exists 10 = .ok (.ifCond .lt 15, 3) := by decide +kernel
theorem d_Encoding_exists_13 : decode b_Encoding_exists 13 = .ok (.lload_n 1, 1) := by decide +kernel
theorem d_Encoding_exists_14 : decode b_Encoding_exists 14 = .ok (.ldc2_w 13, 3) := by decide +kernel
theorem d_Encoding_exists_17 : decode b_Encoding_exists 17 = .ok (.lcmp, 1) := by decide +kernel
theorem d_Encoding_exists_18 : decode b_Encoding_exists 18 = .ok (.ifCond .gt 7, 3) := by decide +kernel
theorem d_Encoding_exists_21 : decode b_Encoding_exists 21 = .ok (.iconst 1, 1) := by decide +kernel
theorem d_Encoding_exists_22 : decode b_Encoding_exists 22 = .ok (.goto 4, 3) := by decide +kernel
theorem d_Encoding_exists_25 : decode b_Encoding_exists 25 = .ok (.iconst 0, 1) := by decide +kernel
theorem d_Encoding_exists_26 : decode b_Encoding_exists 26 = .ok (.ireturn, 1) := by decide +kernel
theorem d_Encoding_exists_27 : decode b_Encoding_exists 27 = .ok (.lload_n 1, 1) := by decide +kernel
theorem d_Encoding_exists_28 : decode b_Encoding_exists 28 = .ok (.lconst 0, 1) := by decide +kernel
theorem d_Encoding_exists_29 : decode b_Encoding_exists 29 = .ok (.lcmp, 1) := by decide +kernel
theorem d_Encoding_exists_30 : decode b_Encoding_exists 30 = .ok (.ifCond .lt 31, 3) := by decide +kernel
theorem d_Encoding_exists_33 : decode b_Encoding_exists 33 = .ok (.lload_n 1, 1) := by decide +kernel
theorem d_Encoding_exists_34 : decode b_Encoding_exists 34 = .ok (.ldc2_w 15, 3) := by decide +kernel
theorem d_Encoding_exists_37 : decode b_Encoding_exists 37 = .ok (.lcmp, 1) := by decide +kernel
theorem d_Encoding_exists_38 : decode b_Encoding_exists 38 = .ok (.ifCond .gt 23, 3) := by decide +kernel
theorem d_Encoding_exists_41 : decode b_Encoding_exists 41 = .ok (.lload_n 1, 1) := by decide +kernel
theorem d_Encoding_exists_42 : decode b_Encoding_exists 42 = .ok (.ldc2_w 17, 3) := by decide +kernel
theorem d_Encoding_exists_45 : decode b_Encoding_exists 45 = .ok (.lcmp, 1) := by decide +kernel
theorem d_Encoding_exists_46 : decode b_Encoding_exists 46 = .ok (.ifCond .lt 11, 3) := by decide +kernel
theorem d_Encoding_exists_49 : decode b_Encoding_exists 49 = .ok (.lload_n 1, 1) := by decide +kernel
theorem d_Encoding_exists_50 : decode b_Encoding_exists 50 = .ok (.ldc2_w 19, 3) := by decide +kernel
theorem d_Encoding_exists_53 : decode b_Encoding_exists 53 = .ok (.lcmp, 1) := by decide +kernel
theorem d_Encoding_exists_54 : decode b_Encoding_exists 54 = .ok (.ifCond .le 7, 3) := by decide +kernel
theorem d_Encoding_exists_57 : decode b_Encoding_exists 57 = .ok (.iconst 1, 1) := by decide +kernel
theorem d_Encoding_exists_58 : decode b_Encoding_exists 58 = .ok (.goto 4, 3) := by decide +kernel
theorem d_Encoding_exists_61 : decode b_Encoding_exists 61 = .ok (.iconst 0, 1) := by decide +kernel
theorem d_Encoding_exists_62 : decode b_Encoding_exists 62 = .ok (.ireturn, 1) := by decide +kernel
abbrev b_Encoding_lengthOf : ByteArray := prog_4_method_3_code
abbrev y_Encoding_lengthOf : MethodName := ⟨"ReplacementWriter$Encoding", "lengthOf", "(I)I"⟩
theorem d_Encoding_lengthOf_0 : decode b_Encoding_lengthOf 0 = .ok (.aload_n 0, 1) := by decide +kernel
theorem d_Encoding_lengthOf_1 : decode b_Encoding_lengthOf 1 = .ok (.getfield 7, 3) := by decide +kernel
theorem d_Encoding_lengthOf_4 : decode b_Encoding_lengthOf 4 = .ok (.ifCond .eq 10, 3) := by decide +kernel
theorem d_Encoding_lengthOf_7 : decode b_Encoding_lengthOf 7 = .ok (.iload_n 1, 1) := by decide +kernel
theorem d_Encoding_lengthOf_8 : decode b_Encoding_lengthOf 8 = .ok (.sipush 128, 3) := by decide +kernel
theorem d_Encoding_lengthOf_11 : decode b_Encoding_lengthOf 11 = .ok (.if_icmp .ge 5, 3) := by decide +kernel
theorem d_Encoding_lengthOf_14 : decode b_Encoding_lengthOf 14 = .ok (.iconst 1, 1) := by decide +kernel
theorem d_Encoding_lengthOf_15 : decode b_Encoding_lengthOf 15 = .ok (.ireturn, 1) := by decide +kernel
theorem d_Encoding_lengthOf_16 : decode b_Encoding_lengthOf 16 = .ok (.iload_n 1, 1) := by decide +kernel
theorem d_Encoding_lengthOf_17 : decode b_Encoding_lengthOf 17 = .ok (.sipush 2048, 3) := by decide +kernel
theorem d_Encoding_lengthOf_20 : decode b_Encoding_lengthOf 20 = .ok (.if_icmp .ge 5, 3) := by decide +kernel
theorem d_Encoding_lengthOf_23 : decode b_Encoding_lengthOf 23 = .ok (.iconst 2, 1) := by decide +kernel
theorem d_Encoding_lengthOf_24 : decode b_Encoding_lengthOf 24 = .ok (.ireturn, 1) := by decide +kernel
theorem d_Encoding_lengthOf_25 : decode b_Encoding_lengthOf 25 = .ok (.iload_n 1, 1) := by decide +kernel
theorem d_Encoding_lengthOf_26 : decode b_Encoding_lengthOf 26 = .ok (.ldc 21, 2) := by decide +kernel
theorem d_Encoding_lengthOf_28 : decode b_Encoding_lengthOf 28 = .ok (.if_icmp .ge 7, 3) := by decide +kernel
theorem d_Encoding_lengthOf_31 : decode b_Encoding_lengthOf 31 = .ok (.iconst 3, 1) := by decide +kernel
theorem d_Encoding_lengthOf_32 : decode b_Encoding_lengthOf 32 = .ok (.goto 4, 3) := by decide +kernel
theorem d_Encoding_lengthOf_35 : decode b_Encoding_lengthOf 35 = .ok (.iconst 4, 1) := by decide +kernel
theorem d_Encoding_lengthOf_36 : decode b_Encoding_lengthOf 36 = .ok (.ireturn, 1) := by decide +kernel
abbrev b_Groups_hold : ByteArray := prog_6_method_7_code
abbrev y_Groups_hold : MethodName := ⟨"ReplacementWriter$Groups", "hold", "(ILReplacementWriter$Row;)V"⟩
theorem d_Groups_hold_0 : decode b_Groups_hold 0 = .ok (.aload_n 0, 1) := by decide +kernel
theorem d_Groups_hold_1 : decode b_Groups_hold 1 = .ok (.getfield 11, 3) := by decide +kernel
theorem d_Groups_hold_4 : decode b_Groups_hold 4 = .ok (.iload_n 1, 1) := by decide +kernel
theorem d_Groups_hold_5 : decode b_Groups_hold 5 = .ok (.aaload, 1) := by decide +kernel
theorem d_Groups_hold_6 : decode b_Groups_hold 6 = .ok (.aload_n 2, 1) := by decide +kernel
theorem d_Groups_hold_7 : decode b_Groups_hold 7 = .ok (.invokevirtual 49, 3) := by decide +kernel
theorem d_Groups_hold_10 : decode b_Groups_hold 10 = .ok (.aload_n 0, 1) := by decide +kernel
theorem d_Groups_hold_11 : decode b_Groups_hold 11 = .ok (.getfield 17, 3) := by decide +kernel
theorem d_Groups_hold_14 : decode b_Groups_hold 14 = .ok (.iload_n 1, 1) := by decide +kernel
theorem d_Groups_hold_15 : decode b_Groups_hold 15 = .ok (.iconst 1, 1) := by decide +kernel
theorem d_Groups_hold_16 : decode b_Groups_hold 16 = .ok (.bastore, 1) := by decide +kernel
theorem d_Groups_hold_17 : decode b_Groups_hold 17 = .ok (.return_, 1) := by decide +kernel
abbrev b_Row_become : ByteArray := prog_9_method_6_code
abbrev y_Row_become : MethodName := ⟨"ReplacementWriter$Row", "become", "(LReplacementWriter$Row;)V"⟩
theorem d_Row_become_0 : decode b_Row_become 0 = .ok (.aload_n 1, 1) := by decide +kernel
theorem d_Row_become_1 : decode b_Row_become 1 = .ok (.getfield 13, 3) := by decide +kernel
theorem d_Row_become_4 : decode b_Row_become 4 = .ok (.aload_n 0, 1) := by decide +kernel
theorem d_Row_become_5 : decode b_Row_become 5 = .ok (.getfield 9, 3) := by decide +kernel
theorem d_Row_become_8 : decode b_Row_become 8 = .ok (.arraylength, 1) := by decide +kernel
theorem d_Row_become_9 : decode b_Row_become 9 = .ok (.if_icmp .le 13, 3) := by decide +kernel
theorem d_Row_become_12 : decode b_Row_become 12 = .ok (.aload_n 0, 1) := by decide +kernel
theorem d_Row_become_13 : decode b_Row_become 13 = .ok (.aload_n 1, 1) := by decide +kernel
theorem d_Row_become_14 : decode b_Row_become 14 = .ok (.getfield 13, 3) := by decide +kernel
theorem d_Row_become_17 : decode b_Row_become 17 = .ok (.newarray .byte, 2) := by decide +kernel
theorem d_Row_become_19 : decode b_Row_become 19 = .ok (.putfield 9, 3) := by decide +kernel
theorem d_Row_become_22 : decode b_Row_become 22 = .ok (.aload_n 1, 1) := by decide +kernel
theorem d_Row_become_23 : decode b_Row_become 23 = .ok (.getfield 9, 3) := by decide +kernel
theorem d_Row_become_26 : decode b_Row_become 26 = .ok (.iconst 0, 1) := by decide +kernel
theorem d_Row_become_27 : decode b_Row_become 27 = .ok (.aload_n 0, 1) := by decide +kernel
theorem d_Row_become_28 : decode b_Row_become 28 = .ok (.getfield 9, 3) := by decide +kernel
theorem d_Row_become_31 : decode b_Row_become 31 = .ok (.iconst 0, 1) := by decide +kernel
theorem d_Row_become_32 : decode b_Row_become 32 = .ok (.aload_n 1, 1) := by decide +kernel
theorem d_Row_become_33 : decode b_Row_become 33 = .ok (.getfield 13, 3) := by decide +kernel
theorem d_Row_become_36 : decode b_Row_become 36 = .ok (.invokestatic 26, 3) := by decide +kernel
theorem d_Row_become_39 : decode b_Row_become 39 = .ok (.aload_n 0, 1) := by decide +kernel
theorem d_Row_become_40 : decode b_Row_become 40 = .ok (.aload_n 1, 1) := by decide +kernel
theorem d_Row_become_41 : decode b_Row_become 41 = .ok (.getfield 13, 3) := by decide +kernel
theorem d_Row_become_44 : decode b_Row_become 44 = .ok (.putfield 13, 3) := by decide +kernel
theorem d_Row_become_47 : decode b_Row_become 47 = .ok (.return_, 1) := by decide +kernel
abbrev b_Encoding_charactersIn : ByteArray := prog_4_method_8_code
abbrev y_Encoding_charactersIn : MethodName := ⟨"ReplacementWriter$Encoding", "charactersIn", "(LReplacementWriter$Row;)I"⟩
theorem d_Encoding_charactersIn_0 : decode b_Encoding_charactersIn 0 = .ok (.iconst 0, 1) := by decide +kernel
theorem d_Encoding_charactersIn_1 : decode b_Encoding_charactersIn 1 = .ok (.istore_n 2, 1) := by decide +kernel
theorem d_Encoding_charactersIn_2 : decode b_Encoding_charactersIn 2 = .ok (.iconst 0, 1) := by decide +kernel
theorem d_Encoding_charactersIn_3 : decode b_Encoding_charactersIn 3 = .ok (.istore_n 3, 1) := by decide +kernel
theorem d_Encoding_charactersIn_4 : decode b_Encoding_charactersIn 4 = .ok (.iload_n 3, 1) := by decide +kernel
theorem d_Encoding_charactersIn_5 : decode b_Encoding_charactersIn 5 = .ok (.aload_n 1, 1) := by decide +kernel
theorem d_Encoding_charactersIn_6 : decode b_Encoding_charactersIn 6 = .ok (.invokevirtual 31, 3) := by decide +kernel
theorem d_Encoding_charactersIn_9 : decode b_Encoding_charactersIn 9 = .ok (.if_icmp .ge 34, 3) := by decide +kernel
theorem d_Encoding_charactersIn_12 : decode b_Encoding_charactersIn 12 = .ok (.aload_n 0, 1) := by decide +kernel
theorem d_Encoding_charactersIn_13 : decode b_Encoding_charactersIn 13 = .ok (.getfield 7, 3) := by decide +kernel
theorem d_Encoding_charactersIn_16 : decode b_Encoding_charactersIn 16 = .ok (.ifCond .eq 18, 3) := by decide +kernel
theorem d_Encoding_charactersIn_19 : decode b_Encoding_charactersIn 19 = .ok (.aload_n 1, 1) := by decide +kernel
theorem d_Encoding_charactersIn_20 : decode b_Encoding_charactersIn 20 = .ok (.iload_n 3, 1) := by decide +kernel
theorem d_Encoding_charactersIn_21 : decode b_Encoding_charactersIn 21 = .ok (.invokevirtual 22, 3) := by decide +kernel
theorem d_Encoding_charactersIn_24 : decode b_Encoding_charactersIn 24 = .ok (.sipush 192, 3) := by decide +kernel
theorem d_Encoding_charactersIn_27 : decode b_Encoding_charactersIn 27 = .ok (.iand, 1) := by decide +kernel
theorem d_Encoding_charactersIn_28 : decode b_Encoding_charactersIn 28 = .ok (.sipush 128, 3) := by decide +kernel
theorem d_Encoding_charactersIn_31 : decode b_Encoding_charactersIn 31 = .ok (.if_icmp .eq 6, 3) := by decide +kernel
theorem d_Encoding_charactersIn_34 : decode b_Encoding_charactersIn 34 = .ok (.iinc 2 1, 3) := by decide +kernel
theorem d_Encoding_charactersIn_37 : decode b_Encoding_charactersIn 37 = .ok (.iinc 3 1, 3) := by decide +kernel
theorem d_Encoding_charactersIn_40 : decode b_Encoding_charactersIn 40 = .ok (.goto (-36), 3) := by decide +kernel
theorem d_Encoding_charactersIn_43 : decode b_Encoding_charactersIn 43 = .ok (.iload_n 2, 1) := by decide +kernel
theorem d_Encoding_charactersIn_44 : decode b_Encoding_charactersIn 44 = .ok (.ireturn, 1) := by decide +kernel
abbrev b_Groups_letGo : ByteArray := prog_6_method_8_code
abbrev y_Groups_letGo : MethodName := ⟨"ReplacementWriter$Groups", "letGo", "(I)V"⟩
theorem d_Groups_letGo_0 : decode b_Groups_letGo 0 = .ok (.aload_n 0, 1) := by decide +kernel
theorem d_Groups_letGo_1 : decode b_Groups_letGo 1 = .ok (.getfield 17, 3) := by decide +kernel
theorem d_Groups_letGo_4 : decode b_Groups_letGo 4 = .ok (.iload_n 1, 1) := by decide +kernel
theorem d_Groups_letGo_5 : decode b_Groups_letGo 5 = .ok (.iconst 0, 1) := by decide +kernel
theorem d_Groups_letGo_6 : decode b_Groups_letGo 6 = .ok (.bastore, 1) := by decide +kernel
theorem d_Groups_letGo_7 : decode b_Groups_letGo 7 = .ok (.return_, 1) := by decide +kernel
abbrev b_Groups_isName : ByteArray := prog_6_method_11_code
abbrev y_Groups_isName : MethodName := ⟨"ReplacementWriter$Groups", "isName", "(LReplacementWriter$Row;)Z"⟩
theorem d_Groups_isName_0 : decode b_Groups_isName 0 = .ok (.aload_n 0, 1) := by decide +kernel
theorem d_Groups_isName_1 : decode b_Groups_isName 1 = .ok (.invokevirtual 53, 3) := by decide +kernel
theorem d_Groups_isName_4 : decode b_Groups_isName 4 = .ok (.iconst 1, 1) := by decide +kernel
theorem d_Groups_isName_5 : decode b_Groups_isName 5 = .ok (.if_icmp .lt 23, 3) := by decide +kernel
theorem d_Groups_isName_8 : decode b_Groups_isName 8 = .ok (.aload_n 0, 1) := by decide +kernel
theorem d_Groups_isName_9 : decode b_Groups_isName 9 = .ok (.invokevirtual 53, 3) := by decide +kernel
theorem d_Groups_isName_12 : decode b_Groups_isName 12 = .ok (.bipush 32, 2) := by decide +kernel
theorem d_Groups_isName_14 : decode b_Groups_isName 14 = .ok (.if_icmp .gt 14, 3) := by decide +kernel
theorem d_Groups_isName_17 : decode b_Groups_isName 17 = .ok (.aload_n 0, 1) := by decide +kernel
theorem d_Groups_isName_18 : decode b_Groups_isName 18 = .ok (.iconst 0, 1) := by decide +kernel
theorem d_Groups_isName_19 : decode b_Groups_isName 19 = .ok (.invokevirtual 57, 3) := by decide +kernel
theorem d_Groups_isName_22 : decode b_Groups_isName 22 = .ok (.invokestatic 61, 3) := by decide +kernel
theorem d_Groups_isName_25 : decode b_Groups_isName 25 = .ok (.ifCond .eq 5, 3) := by decide +kernel
theorem d_Groups_isName_28 : decode b_Groups_isName 28 = .ok (.iconst 0, 1) := by decide +kernel
theorem d_Groups_isName_29 : decode b_Groups_isName 29 = .ok (.ireturn, 1) := by decide +kernel
theorem d_Groups_isName_30 : decode b_Groups_isName 30 = .ok (.iconst 0, 1) := by decide +kernel
theorem d_Groups_isName_31 : decode b_Groups_isName 31 = .ok (.istore_n 1, 1) := by decide +kernel
theorem d_Groups_isName_32 : decode b_Groups_isName 32 = .ok (.iload_n 1, 1) := by decide +kernel
theorem d_Groups_isName_33 : decode b_Groups_isName 33 = .ok (.aload_n 0, 1) := by decide +kernel
theorem d_Groups_isName_34 : decode b_Groups_isName 34 = .ok (.invokevirtual 53, 3) := by decide +kernel
theorem d_Groups_isName_37 : decode b_Groups_isName 37 = .ok (.if_icmp .ge 22, 3) := by decide +kernel
theorem d_Groups_isName_40 : decode b_Groups_isName 40 = .ok (.aload_n 0, 1) := by decide +kernel
theorem d_Groups_isName_41 : decode b_Groups_isName 41 = .ok (.iload_n 1, 1) := by decide +kernel
theorem d_Groups_isName_42 : decode b_Groups_isName 42 = .ok (.invokevirtual 57, 3) := by decide +kernel
theorem d_Groups_isName_45 : decode b_Groups_isName 45 = .ok (.invokestatic 67, 3) := by decide +kernel
theorem d_Groups_isName_48 : decode b_Groups_isName 48 = .ok (.ifCond .ne 5, 3) := by decide +kernel
theorem d_Groups_isName_51 : decode b_Groups_isName 51 = .ok (.iconst 0, 1) := by decide +kernel
theorem d_Groups_isName_52 : decode b_Groups_isName 52 = .ok (.ireturn, 1) := by decide +kernel
theorem d_Groups_isName_53 : decode b_Groups_isName 53 = .ok (.iinc 1 1, 3) := by decide +kernel
theorem d_Groups_isName_56 : decode b_Groups_isName 56 = .ok (.goto (-24), 3) := by decide +kernel
theorem d_Groups_isName_59 : decode b_Groups_isName 59 = .ok (.iconst 1, 1) := by decide +kernel
theorem d_Groups_isName_60 : decode b_Groups_isName 60 = .ok (.ireturn, 1) := by decide +kernel
abbrev b_Ascii_isDigit : ByteArray := prog_2_method_2_code
abbrev y_Ascii_isDigit : MethodName := ⟨"ReplacementWriter$Ascii", "isDigit", "(I)Z"⟩
theorem d_Ascii_isDigit_0 : decode b_Ascii_isDigit 0 = .ok (.iload_n 0, 1) := by decide +kernel
theorem d_Ascii_isDigit_1 : decode b_Ascii_isDigit 1 = .ok (.bipush 48, 2) := by decide +kernel
theorem d_Ascii_isDigit_3 : decode b_Ascii_isDigit 3 = .ok (.if_icmp .lt 13, 3) := by decide +kernel
theorem d_Ascii_isDigit_6 : decode b_Ascii_isDigit 6 = .ok (.iload_n 0, 1) := by decide +kernel
theorem d_Ascii_isDigit_7 : decode b_Ascii_isDigit 7 = .ok (.bipush 57, 2) := by decide +kernel
theorem d_Ascii_isDigit_9 : decode b_Ascii_isDigit 9 = .ok (.if_icmp .gt 7, 3) := by decide +kernel
theorem d_Ascii_isDigit_12 : decode b_Ascii_isDigit 12 = .ok (.iconst 1, 1) := by decide +kernel
theorem d_Ascii_isDigit_13 : decode b_Ascii_isDigit 13 = .ok (.goto 4, 3) := by decide +kernel
theorem d_Ascii_isDigit_16 : decode b_Ascii_isDigit 16 = .ok (.iconst 0, 1) := by decide +kernel
theorem d_Ascii_isDigit_17 : decode b_Ascii_isDigit 17 = .ok (.ireturn, 1) := by decide +kernel
abbrev b_Ascii_isWord : ByteArray := prog_2_method_4_code
abbrev y_Ascii_isWord : MethodName := ⟨"ReplacementWriter$Ascii", "isWord", "(I)Z"⟩
theorem d_Ascii_isWord_0 : decode b_Ascii_isWord 0 = .ok (.iload_n 0, 1) := by decide +kernel
theorem d_Ascii_isWord_1 : decode b_Ascii_isWord 1 = .ok (.bipush 95, 2) := by decide +kernel
theorem d_Ascii_isWord_3 : decode b_Ascii_isWord 3 = .ok (.if_icmp .eq 10, 3) := by decide +kernel
theorem d_Ascii_isWord_6 : decode b_Ascii_isWord 6 = .ok (.iload_n 0, 1) := by decide +kernel
theorem d_Ascii_isWord_7 : decode b_Ascii_isWord 7 = .ok (.invokestatic 13, 3) := by decide +kernel
theorem d_Ascii_isWord_10 : decode b_Ascii_isWord 10 = .ok (.ifCond .eq 7, 3) := by decide +kernel
theorem d_Ascii_isWord_13 : decode b_Ascii_isWord 13 = .ok (.iconst 1, 1) := by decide +kernel
theorem d_Ascii_isWord_14 : decode b_Ascii_isWord 14 = .ok (.goto 4, 3) := by decide +kernel
theorem d_Ascii_isWord_17 : decode b_Ascii_isWord 17 = .ok (.iconst 0, 1) := by decide +kernel
theorem d_Ascii_isWord_18 : decode b_Ascii_isWord 18 = .ok (.ireturn, 1) := by decide +kernel
abbrev b_Ascii_isLetterOrDigit : ByteArray := prog_2_method_3_code
abbrev y_Ascii_isLetterOrDigit : MethodName := ⟨"ReplacementWriter$Ascii", "isLetterOrDigit", "(I)Z"⟩
theorem d_Ascii_isLetterOrDigit_0 : decode b_Ascii_isLetterOrDigit 0 = .ok (.iload_n 0, 1) := by decide +kernel
theorem d_Ascii_isLetterOrDigit_1 : decode b_Ascii_isLetterOrDigit 1 = .ok (.invokestatic 7, 3) := by decide +kernel
theorem d_Ascii_isLetterOrDigit_4 : decode b_Ascii_isLetterOrDigit 4 = .ok (.ifCond .ne 27, 3) := by decide +kernel
theorem d_Ascii_isLetterOrDigit_7 : decode b_Ascii_isLetterOrDigit 7 = .ok (.iload_n 0, 1) := by decide +kernel
theorem d_Ascii_isLetterOrDigit_8 : decode b_Ascii_isLetterOrDigit 8 = .ok (.bipush 65, 2) := by decide +kernel
theorem d_Ascii_isLetterOrDigit_10 : decode b_Ascii_isLetterOrDigit 10 = .ok (.if_icmp .lt 9, 3) := by decide +kernel
theorem d_Ascii_isLetterOrDigit_13 : decode b_Ascii_isLetterOrDigit 13 = .ok (.iload_n 0, 1) := by decide +kernel
theorem d_Ascii_isLetterOrDigit_14 : decode b_Ascii_isLetterOrDigit 14 = .ok (.bipush 90, 2) := by decide +kernel
theorem d_Ascii_isLetterOrDigit_16 : decode b_Ascii_isLetterOrDigit 16 = .ok (.if_icmp .le 15, 3) := by decide +kernel
theorem d_Ascii_isLetterOrDigit_19 : decode b_Ascii_isLetterOrDigit 19 = .ok (.iload_n 0, 1) := by decide +kernel
theorem d_Ascii_isLetterOrDigit_20 : decode b_Ascii_isLetterOrDigit 20 = .ok (.bipush 97, 2) := by decide +kernel
theorem d_Ascii_isLetterOrDigit_22 : decode b_Ascii_isLetterOrDigit 22 = .ok (.if_icmp .lt 13, 3) := by decide +kernel
theorem d_Ascii_isLetterOrDigit_25 : decode b_Ascii_isLetterOrDigit 25 = .ok (.iload_n 0, 1) := by decide +kernel
theorem d_Ascii_isLetterOrDigit_26 : decode b_Ascii_isLetterOrDigit 26 = .ok (.bipush 122, 2) := by decide +kernel
theorem d_Ascii_isLetterOrDigit_28 : decode b_Ascii_isLetterOrDigit 28 = .ok (.if_icmp .gt 7, 3) := by decide +kernel
theorem d_Ascii_isLetterOrDigit_31 : decode b_Ascii_isLetterOrDigit 31 = .ok (.iconst 1, 1) := by decide +kernel
theorem d_Ascii_isLetterOrDigit_32 : decode b_Ascii_isLetterOrDigit 32 = .ok (.goto 4, 3) := by decide +kernel
theorem d_Ascii_isLetterOrDigit_35 : decode b_Ascii_isLetterOrDigit 35 = .ok (.iconst 0, 1) := by decide +kernel
theorem d_Ascii_isLetterOrDigit_36 : decode b_Ascii_isLetterOrDigit 36 = .ok (.ireturn, 1) := by decide +kernel
abbrev b_Groups_giveName : ByteArray := prog_6_method_12_code
abbrev y_Groups_giveName : MethodName := ⟨"ReplacementWriter$Groups", "giveName", "(ILReplacementWriter$Row;)V"⟩
theorem d_Groups_giveName_0 : decode b_Groups_giveName 0 = .ok (.aload_n 0, 1) := by decide +kernel
theorem d_Groups_giveName_1 : decode b_Groups_giveName 1 = .ok (.dup, 1) := by decide +kernel
theorem d_Groups_giveName_2 : decode b_Groups_giveName 2 = .ok (.getfield 40, 3) := by decide +kernel
theorem d_Groups_giveName_5 : decode b_Groups_giveName 5 = .ok (.iconst 1, 1) := by decide +kernel
theorem d_Groups_giveName_6 : decode b_Groups_giveName 6 = .ok (.iadd, 1) := by decide +kernel
theorem d_Groups_giveName_7 : decode b_Groups_giveName 7 = .ok (.putfield 40, 3) := by decide +kernel
theorem d_Groups_giveName_10 : decode b_Groups_giveName 10 = .ok (.iconst 0, 1) := by decide +kernel
theorem d_Groups_giveName_11 : decode b_Groups_giveName 11 = .ok (.istore_n 3, 1) := by decide +kernel
theorem d_Groups_giveName_12 : decode b_Groups_giveName 12 = .ok (.iload_n 3, 1) := by decide +kernel
theorem d_Groups_giveName_13 : decode b_Groups_giveName 13 = .ok (.aload_n 0, 1) := by decide +kernel
theorem d_Groups_giveName_14 : decode b_Groups_giveName 14 = .ok (.getfield 24, 3) := by decide +kernel
theorem d_Groups_giveName_17 : decode b_Groups_giveName 17 = .ok (.invokevirtual 70, 3) := by decide +kernel
theorem d_Groups_giveName_20 : decode b_Groups_giveName 20 = .ok (.if_icmp .ge 46, 3) := by decide +kernel
theorem d_Groups_giveName_23 : decode b_Groups_giveName 23 = .ok (.aload_n 0, 1) := by decide +kernel
theorem d_Groups_giveName_24 : decode b_Groups_giveName 24 = .ok (.getfield 24, 3) := by decide +kernel
theorem d_Groups_giveName_27 : decode b_Groups_giveName 27 = .ok (.iload_n 3, 1) := by decide +kernel
theorem d_Groups_giveName_28 : decode b_Groups_giveName 28 = .ok (.invokevirtual 73, 3) := by decide +kernel
theorem d_Groups_giveName_31 : decode b_Groups_giveName 31 = .ok (.checkcast 77, 3) := by decide +kernel
theorem d_Groups_giveName_34 : decode b_Groups_giveName 34 = .ok (.astore 4, 2) := by decide +kernel
theorem d_Groups_giveName_36 : decode b_Groups_giveName 36 = .ok (.aload 4, 2) := by decide +kernel
theorem d_Groups_giveName_38 : decode b_Groups_giveName 38 = .ok (.getfield 79, 3) := by decide +kernel
theorem d_Groups_giveName_41 : decode b_Groups_giveName 41 = .ok (.iload_n 1, 1) := by decide +kernel
theorem d_Groups_giveName_42 : decode b_Groups_giveName 42 = .ok (.if_icmp .ne 18, 3) := by decide +kernel
theorem d_Groups_giveName_45 : decode b_Groups_giveName 45 = .ok (.aload 4, 2) := by decide +kernel
theorem d_Groups_giveName_47 : decode b_Groups_giveName 47 = .ok (.aload_n 2, 1) := by decide +kernel
theorem d_Groups_giveName_48 : decode b_Groups_giveName 48 = .ok (.iconst 0, 1) := by decide +kernel
theorem d_Groups_giveName_49 : decode b_Groups_giveName 49 = .ok (.aload_n 2, 1) := by decide +kernel
theorem d_Groups_giveName_50 : decode b_Groups_giveName 50 = .ok (.invokevirtual 53, 3) := by decide +kernel
theorem d_Groups_giveName_53 : decode b_Groups_giveName 53 = .ok (.invokevirtual 82, 3) := by decide +kernel
theorem d_Groups_giveName_56 : decode b_Groups_giveName 56 = .ok (.ifCond .eq 4, 3) := by decide +kernel
theorem d_Groups_giveName_59 : decode b_Groups_giveName 59 = .ok (.return_, 1) := by decide +kernel
theorem d_Groups_giveName_60 : decode b_Groups_giveName 60 = .ok (.iinc 3 1, 3) := by decide +kernel
theorem d_Groups_giveName_63 : decode b_Groups_giveName 63 = .ok (.goto (-51), 3) := by decide +kernel
theorem d_Groups_giveName_66 : decode b_Groups_giveName 66 = .ok (.aload_n 0, 1) := by decide +kernel
theorem d_Groups_giveName_67 : decode b_Groups_giveName 67 = .ok (.getfield 24, 3) := by decide +kernel
theorem d_Groups_giveName_70 : decode b_Groups_giveName 70 = .ok (.invokevirtual 70, 3) := by decide +kernel
theorem d_Groups_giveName_73 : decode b_Groups_giveName 73 = .ok (.sipush 512, 3) := by decide +kernel
theorem d_Groups_giveName_76 : decode b_Groups_giveName 76 = .ok (.if_icmp .ge 23, 3) := by decide +kernel
theorem d_Groups_giveName_79 : decode b_Groups_giveName 79 = .ok (.aload_n 0, 1) := by decide +kernel
theorem d_Groups_giveName_80 : decode b_Groups_giveName 80 = .ok (.getfield 24, 3) := by decide +kernel
theorem d_Groups_giveName_83 : decode b_Groups_giveName 83 = .ok (.new 77, 3) := by decide +kernel
theorem d_Groups_giveName_86 : decode b_Groups_giveName 86 = .ok (.dup, 1) := by decide +kernel
theorem d_Groups_giveName_87 : decode b_Groups_giveName 87 = .ok (.aload_n 2, 1) := by decide +kernel
theorem d_Groups_giveName_88 : decode b_Groups_giveName 88 = .ok (.invokevirtual 86, 3) := by decide +kernel
theorem d_Groups_giveName_91 : decode b_Groups_giveName 91 = .ok (.iload_n 1, 1) := by decide +kernel
theorem d_Groups_giveName_92 : decode b_Groups_giveName 92 = .ok (.invokespecial 90, 3) := by decide +kernel
theorem d_Groups_giveName_95 : decode b_Groups_giveName 95 = .ok (.invokevirtual 93, 3) := by decide +kernel
theorem d_Groups_giveName_98 : decode b_Groups_giveName 98 = .ok (.pop, 1) := by decide +kernel
theorem d_Groups_giveName_99 : decode b_Groups_giveName 99 = .ok (.return_, 1) := by decide +kernel
abbrev b_Name_stands : ByteArray := prog_7_method_2_code
abbrev y_Name_stands : MethodName := ⟨"ReplacementWriter$Name", "stands", "(LReplacementWriter$Row;II)Z"⟩
theorem d_Name_stands_0 : decode b_Name_stands 0 = .ok (.iload_n 3, 1) := by decide +kernel
theorem d_Name_stands_1 : decode b_Name_stands 1 = .ok (.iload_n 2, 1) := by decide +kernel
theorem d_Name_stands_2 : decode b_Name_stands 2 = .ok (.isub, 1) := by decide +kernel
theorem d_Name_stands_3 : decode b_Name_stands 3 = .ok (.aload_n 0, 1) := by decide +kernel
theorem d_Name_stands_4 : decode b_Name_stands 4 = .ok (.getfield 7, 3) := by decide +kernel
theorem d_Name_stands_7 : decode b_Name_stands 7 = .ok (.arraylength, 1) := by decide +kernel
theorem d_Name_stands_8 : decode b_Name_stands 8 = .ok (.if_icmp .eq 5, 3) := by decide +kernel
theorem d_Name_stands_11 : decode b_Name_stands 11 = .ok (.iconst 0, 1) := by decide +kernel
theorem d_Name_stands_12 : decode b_Name_stands 12 = .ok (.ireturn, 1) := by decide +kernel
theorem d_Name_stands_13 : decode b_Name_stands 13 = .ok (.iconst 0, 1) := by decide +kernel
theorem d_Name_stands_14 : decode b_Name_stands 14 = .ok (.istore 4, 2) := by decide +kernel
theorem d_Name_stands_16 : decode b_Name_stands 16 = .ok (.iload 4, 2) := by decide +kernel
theorem d_Name_stands_18 : decode b_Name_stands 18 = .ok (.aload_n 0, 1) := by decide +kernel
theorem d_Name_stands_19 : decode b_Name_stands 19 = .ok (.getfield 7, 3) := by decide +kernel
theorem d_Name_stands_22 : decode b_Name_stands 22 = .ok (.arraylength, 1) := by decide +kernel
theorem d_Name_stands_23 : decode b_Name_stands 23 = .ok (.if_icmp .ge 29, 3) := by decide +kernel
theorem d_Name_stands_26 : decode b_Name_stands 26 = .ok (.aload_n 1, 1) := by decide +kernel
theorem d_Name_stands_27 : decode b_Name_stands 27 = .ok (.iload_n 2, 1) := by decide +kernel
theorem d_Name_stands_28 : decode b_Name_stands 28 = .ok (.iload 4, 2) := by decide +kernel
theorem d_Name_stands_30 : decode b_Name_stands 30 = .ok (.iadd, 1) := by decide +kernel
theorem d_Name_stands_31 : decode b_Name_stands 31 = .ok (.invokevirtual 17, 3) := by decide +kernel
theorem d_Name_stands_34 : decode b_Name_stands 34 = .ok (.aload_n 0, 1) := by decide +kernel
theorem d_Name_stands_35 : decode b_Name_stands 35 = .ok (.getfield 7, 3) := by decide +kernel
theorem d_Name_stands_38 : decode b_Name_stands 38 = .ok (.iload 4, 2) := by decide +kernel
theorem d_Name_stands_40 : decode b_Name_stands 40 = .ok (.baload, 1) := by decide +kernel
theorem d_Name_stands_41 : decode b_Name_stands 41 = .ok (.if_icmp .eq 5, 3) := by decide +kernel
theorem d_Name_stands_44 : decode b_Name_stands 44 = .ok (.iconst 0, 1) := by decide +kernel
theorem d_Name_stands_45 : decode b_Name_stands 45 = .ok (.ireturn, 1) := by decide +kernel
theorem d_Name_stands_46 : decode b_Name_stands 46 = .ok (.iinc 4 1, 3) := by decide +kernel
theorem d_Name_stands_49 : decode b_Name_stands 49 = .ok (.goto (-33), 3) := by decide +kernel
theorem d_Name_stands_52 : decode b_Name_stands 52 = .ok (.iconst 1, 1) := by decide +kernel
theorem d_Name_stands_53 : decode b_Name_stands 53 = .ok (.ireturn, 1) := by decide +kernel
abbrev b_Row_copyOfBytes : ByteArray := prog_9_method_7_code
abbrev y_Row_copyOfBytes : MethodName := ⟨"ReplacementWriter$Row", "copyOfBytes", "()[B"⟩
theorem d_Row_copyOfBytes_0 : decode b_Row_copyOfBytes 0 = .ok (.aload_n 0, 1) := by decide +kernel
theorem d_Row_copyOfBytes_1 : decode b_Row_copyOfBytes 1 = .ok (.getfield 9, 3) := by decide +kernel
theorem d_Row_copyOfBytes_4 : decode b_Row_copyOfBytes 4 = .ok (.aload_n 0, 1) := by decide +kernel
theorem d_Row_copyOfBytes_5 : decode b_Row_copyOfBytes 5 = .ok (.getfield 13, 3) := by decide +kernel
theorem d_Row_copyOfBytes_8 : decode b_Row_copyOfBytes 8 = .ok (.invokestatic 20, 3) := by decide +kernel
theorem d_Row_copyOfBytes_11 : decode b_Row_copyOfBytes 11 = .ok (.areturn, 1) := by decide +kernel
abbrev b_Name_init : ByteArray := prog_7_method_1_code
abbrev y_Name_init : MethodName := ⟨"ReplacementWriter$Name", "<init>", "([BI)V"⟩
theorem d_Name_init_0 : decode b_Name_init 0 = .ok (.aload_n 0, 1) := by decide +kernel
theorem d_Name_init_1 : decode b_Name_init 1 = .ok (.invokespecial 1, 3) := by decide +kernel
theorem d_Name_init_4 : decode b_Name_init 4 = .ok (.aload_n 0, 1) := by decide +kernel
theorem d_Name_init_5 : decode b_Name_init 5 = .ok (.aload_n 1, 1) := by decide +kernel
theorem d_Name_init_6 : decode b_Name_init 6 = .ok (.putfield 7, 3) := by decide +kernel
theorem d_Name_init_9 : decode b_Name_init 9 = .ok (.aload_n 0, 1) := by decide +kernel
theorem d_Name_init_10 : decode b_Name_init 10 = .ok (.iload_n 2, 1) := by decide +kernel
theorem d_Name_init_11 : decode b_Name_init 11 = .ok (.putfield 13, 3) := by decide +kernel
theorem d_Name_init_14 : decode b_Name_init 14 = .ok (.return_, 1) := by decide +kernel
abbrev b_Groups_holdMark : ByteArray := prog_6_method_9_code
abbrev y_Groups_holdMark : MethodName := ⟨"ReplacementWriter$Groups", "holdMark", "(LReplacementWriter$Row;)V"⟩
theorem d_Groups_holdMark_0 : decode b_Groups_holdMark 0 = .ok (.aload_n 0, 1) := by decide +kernel
theorem d_Groups_holdMark_1 : decode b_Groups_holdMark 1 = .ok (.getfield 32, 3) := by decide +kernel
theorem d_Groups_holdMark_4 : decode b_Groups_holdMark 4 = .ok (.aload_n 1, 1) := by decide +kernel
theorem d_Groups_holdMark_5 : decode b_Groups_holdMark 5 = .ok (.invokevirtual 49, 3) := by decide +kernel
theorem d_Groups_holdMark_8 : decode b_Groups_holdMark 8 = .ok (.return_, 1) := by decide +kernel
abbrev b_Output_startAnew : ByteArray := prog_8_method_2_code
abbrev y_Output_startAnew : MethodName := ⟨"ReplacementWriter$Output", "startAnew", "()V"⟩
theorem d_Output_startAnew_0 : decode b_Output_startAnew 0 = .ok (.aload_n 0, 1) := by decide +kernel
theorem d_Output_startAnew_1 : decode b_Output_startAnew 1 = .ok (.getfield 15, 3) := by decide +kernel
theorem d_Output_startAnew_4 : decode b_Output_startAnew 4 = .ok (.iconst 0, 1) := by decide +kernel
theorem d_Output_startAnew_5 : decode b_Output_startAnew 5 = .ok (.invokevirtual 45, 3) := by decide +kernel
theorem d_Output_startAnew_8 : decode b_Output_startAnew 8 = .ok (.aload_n 0, 1) := by decide +kernel
theorem d_Output_startAnew_9 : decode b_Output_startAnew 9 = .ok (.getstatic 21, 3) := by decide +kernel
theorem d_Output_startAnew_12 : decode b_Output_startAnew 12 = .ok (.putfield 27, 3) := by decide +kernel
theorem d_Output_startAnew_15 : decode b_Output_startAnew 15 = .ok (.aload_n 0, 1) := by decide +kernel
theorem d_Output_startAnew_16 : decode b_Output_startAnew 16 = .ok (.getstatic 21, 3) := by decide +kernel
theorem d_Output_startAnew_19 : decode b_Output_startAnew 19 = .ok (.putfield 30, 3) := by decide +kernel
theorem d_Output_startAnew_22 : decode b_Output_startAnew 22 = .ok (.aload_n 0, 1) := by decide +kernel
theorem d_Output_startAnew_23 : decode b_Output_startAnew 23 = .ok (.iconst 0, 1) := by decide +kernel
theorem d_Output_startAnew_24 : decode b_Output_startAnew 24 = .ok (.putfield 33, 3) := by decide +kernel
theorem d_Output_startAnew_27 : decode b_Output_startAnew 27 = .ok (.return_, 1) := by decide +kernel
abbrev b_Output_copy : ByteArray := prog_8_method_7_code
abbrev y_Output_copy : MethodName := ⟨"ReplacementWriter$Output", "copy", "(LReplacementWriter$Row;II)V"⟩
theorem d_Output_copy_0 : decode b_Output_copy 0 = .ok (.iload_n 2, 1) := by decide +kernel
theorem d_Output_copy_1 : decode b_Output_copy 1 = .ok (.istore 4, 2) := by decide +kernel
theorem d_Output_copy_3 : decode b_Output_copy 3 = .ok (.iload 4, 2) := by decide +kernel
theorem d_Output_copy_5 : decode b_Output_copy 5 = .ok (.iload_n 3, 1) := by decide +kernel
theorem d_Output_copy_6 : decode b_Output_copy 6 = .ok (.if_icmp .ge 49, 3) := by decide +kernel
theorem d_Output_copy_9 : decode b_Output_copy 9 = .ok (.aload_n 0, 1) := by decide +kernel
theorem d_Output_copy_10 : decode b_Output_copy 10 = .ok (.getfield 33, 3) := by decide +kernel
theorem d_Output_copy_13 : decode b_Output_copy 13 = .ok (.ifCond .ne 42, 3) := by decide +kernel
theorem d_Output_copy_16 : decode b_Output_copy 16 = .ok (.aload_n 0, 1) := by decide +kernel
theorem d_Output_copy_17 : decode b_Output_copy 17 = .ok (.aload_n 0, 1) := by decide +kernel
theorem d_Output_copy_18 : decode b_Output_copy 18 = .ok (.getfield 37, 3) := by decide +kernel
theorem d_Output_copy_21 : decode b_Output_copy 21 = .ok (.aload_n 1, 1) := by decide +kernel
theorem d_Output_copy_22 : decode b_Output_copy 22 = .ok (.iload 4, 2) := by decide +kernel
theorem d_Output_copy_24 : decode b_Output_copy 24 = .ok (.invokevirtual 48, 3) := by decide +kernel
theorem d_Output_copy_27 : decode b_Output_copy 27 = .ok (.invokevirtual 54, 3) := by decide +kernel
theorem d_Output_copy_30 : decode b_Output_copy 30 = .ok (.iload 4, 2) := by decide +kernel
theorem d_Output_copy_32 : decode b_Output_copy 32 = .ok (.iconst 1, 1) := by decide +kernel
theorem d_Output_copy_33 : decode b_Output_copy 33 = .ok (.aload_n 0, 1) := by decide +kernel
theorem d_Output_copy_34 : decode b_Output_copy 34 = .ok (.getfield 37, 3) := by decide +kernel
theorem d_Output_copy_37 : decode b_Output_copy 37 = .ok (.aload_n 1, 1) := by decide +kernel
theorem d_Output_copy_38 : decode b_Output_copy 38 = .ok (.iload 4, 2) := by decide +kernel
theorem d_Output_copy_40 : decode b_Output_copy 40 = .ok (.invokevirtual 57, 3) := by decide +kernel
theorem d_Output_copy_43 : decode b_Output_copy 43 = .ok (.invokevirtual 61, 3) := by decide +kernel
theorem d_Output_copy_46 : decode b_Output_copy 46 = .ok (.invokestatic 64, 3) := by decide +kernel
theorem d_Output_copy_49 : decode b_Output_copy 49 = .ok (.iadd, 1) := by decide +kernel
theorem d_Output_copy_50 : decode b_Output_copy 50 = .ok (.istore 4, 2) := by decide +kernel
theorem d_Output_copy_52 : decode b_Output_copy 52 = .ok (.goto (-49), 3) := by decide +kernel
theorem d_Output_copy_55 : decode b_Output_copy 55 = .ok (.return_, 1) := by decide +kernel
abbrev b_Output_put : ByteArray := prog_8_method_8_code
abbrev y_Output_put : MethodName := ⟨"ReplacementWriter$Output", "put", "(I)V"⟩
theorem d_Output_put_0 : decode b_Output_put 0 = .ok (.aload_n 0, 1) := by decide +kernel
theorem d_Output_put_1 : decode b_Output_put 1 = .ok (.getfield 41, 3) := by decide +kernel
theorem d_Output_put_4 : decode b_Output_put 4 = .ok (.iload_n 1, 1) := by decide +kernel
theorem d_Output_put_5 : decode b_Output_put 5 = .ok (.aload_n 0, 1) := by decide +kernel
theorem d_Output_put_6 : decode b_Output_put 6 = .ok (.getfield 30, 3) := by decide +kernel
theorem d_Output_put_9 : decode b_Output_put 9 = .ok (.getstatic 21, 3) := by decide +kernel
theorem d_Output_put_12 : decode b_Output_put 12 = .ok (.if_acmp .ne 10, 3) := by decide +kernel
theorem d_Output_put_15 : decode b_Output_put 15 = .ok (.aload_n 0, 1) := by decide +kernel
theorem d_Output_put_16 : decode b_Output_put 16 = .ok (.getfield 27, 3) := by decide +kernel
theorem d_Output_put_19 : decode b_Output_put 19 = .ok (.goto 7, 3) := by decide +kernel
theorem d_Output_put_22 : decode b_Output_put 22 = .ok (.aload_n 0, 1) := by decide +kernel
theorem d_Output_put_23 : decode b_Output_put 23 = .ok (.getfield 30, 3) := by decide +kernel
theorem d_Output_put_26 : decode b_Output_put 26 = .ok (.invokevirtual 70, 3) := by decide +kernel
theorem d_Output_put_29 : decode b_Output_put 29 = .ok (.istore_n 2, 1) := by decide +kernel
theorem d_Output_put_30 : decode b_Output_put 30 = .ok (.aload_n 0, 1) := by decide +kernel
theorem d_Output_put_31 : decode b_Output_put 31 = .ok (.getstatic 21, 3) := by decide +kernel
theorem d_Output_put_34 : decode b_Output_put 34 = .ok (.putfield 30, 3) := by decide +kernel
theorem d_Output_put_37 : decode b_Output_put 37 = .ok (.aload_n 0, 1) := by decide +kernel
theorem d_Output_put_38 : decode b_Output_put 38 = .ok (.getfield 37, 3) := by decide +kernel
theorem d_Output_put_41 : decode b_Output_put 41 = .ok (.iload_n 2, 1) := by decide +kernel
theorem d_Output_put_42 : decode b_Output_put 42 = .ok (.invokevirtual 76, 3) := by decide +kernel
theorem d_Output_put_45 : decode b_Output_put 45 = .ok (.istore_n 3, 1) := by decide +kernel
theorem d_Output_put_46 : decode b_Output_put 46 = .ok (.aload_n 0, 1) := by decide +kernel
theorem d_Output_put_47 : decode b_Output_put 47 = .ok (.getfield 15, 3) := by decide +kernel
theorem d_Output_put_50 : decode b_Output_put 50 = .ok (.invokevirtual 79, 3) := by decide +kernel
theorem d_Output_put_53 : decode b_Output_put 53 = .ok (.iload_n 3, 1) := by decide +kernel
theorem d_Output_put_54 : decode b_Output_put 54 = .ok (.iadd, 1) := by decide +kernel
theorem d_Output_put_55 : decode b_Output_put 55 = .ok (.ldc 11, 2) := by decide +kernel
theorem d_Output_put_57 : decode b_Output_put 57 = .ok (.if_icmp .le 9, 3) := by decide +kernel
theorem d_Output_put_60 : decode b_Output_put 60 = .ok (.aload_n 0, 1) := by decide +kernel
theorem d_Output_put_61 : decode b_Output_put 61 = .ok (.iconst 1, 1) := by decide +kernel
theorem d_Output_put_62 : decode b_Output_put 62 = .ok (.putfield 33, 3) := by decide +kernel
theorem d_Output_put_65 : decode b_Output_put 65 = .ok (.return_, 1) := by decide +kernel
theorem d_Output_put_66 : decode b_Output_put 66 = .ok (.iload_n 3, 1) := by decide +kernel
theorem d_Output_put_67 : decode b_Output_put 67 = .ok (.iconst 1, 1) := by decide +kernel
theorem d_Output_put_68 : decode b_Output_put 68 = .ok (.if_icmp .ne 12, 3) := by decide +kernel
theorem d_Output_put_71 : decode b_Output_put 71 = .ok (.aload_n 0, 1) := by decide +kernel
theorem d_Output_put_72 : decode b_Output_put 72 = .ok (.getfield 15, 3) := by decide +kernel
theorem d_Output_put_75 : decode b_Output_put 75 = .ok (.iload_n 2, 1) := by decide +kernel
theorem d_Output_put_76 : decode b_Output_put 76 = .ok (.invokevirtual 83, 3) := by decide +kernel
theorem d_Output_put_79 : decode b_Output_put 79 = .ok (.return_, 1) := by decide +kernel
theorem d_Output_put_80 : decode b_Output_put 80 = .ok (.aload_n 0, 1) := by decide +kernel
theorem d_Output_put_81 : decode b_Output_put 81 = .ok (.getfield 15, 3) := by decide +kernel
theorem d_Output_put_84 : decode b_Output_put 84 = .ok (.sipush 3840, 3) := by decide +kernel
theorem d_Output_put_87 : decode b_Output_put 87 = .ok (.iload_n 3, 1) := by decide +kernel
theorem d_Output_put_88 : decode b_Output_put 88 = .ok (.ishr, 1) := by decide +kernel
theorem d_Output_put_89 : decode b_Output_put 89 = .ok (.iload_n 2, 1) := by decide +kernel
theorem d_Output_put_90 : decode b_Output_put 90 = .ok (.bipush 6, 2) := by decide +kernel
theorem d_Output_put_92 : decode b_Output_put 92 = .ok (.iload_n 3, 1) := by decide +kernel
theorem d_Output_put_93 : decode b_Output_put 93 = .ok (.iconst 1, 1) := by decide +kernel
theorem d_Output_put_94 : decode b_Output_put 94 = .ok (.isub, 1) := by decide +kernel
theorem d_Output_put_95 : decode b_Output_put 95 = .ok (.imul, 1) := by decide +kernel
theorem d_Output_put_96 : decode b_Output_put 96 = .ok (.ishr, 1) := by decide +kernel
theorem d_Output_put_97 : decode b_Output_put 97 = .ok (.ior, 1) := by decide +kernel
theorem d_Output_put_98 : decode b_Output_put 98 = .ok (.invokevirtual 83, 3) := by decide +kernel
theorem d_Output_put_101 : decode b_Output_put 101 = .ok (.iload_n 3, 1) := by decide +kernel
theorem d_Output_put_102 : decode b_Output_put 102 = .ok (.iconst 2, 1) := by decide +kernel
theorem d_Output_put_103 : decode b_Output_put 103 = .ok (.isub, 1) := by decide +kernel
theorem d_Output_put_104 : decode b_Output_put 104 = .ok (.istore 4, 2) := by decide +kernel
theorem d_Output_put_106 : decode b_Output_put 106 = .ok (.iload 4, 2) := by decide +kernel
theorem d_Output_put_108 : decode b_Output_put 108 = .ok (.ifCond .lt 30, 3) := by decide +kernel
theorem d_Output_put_111 : decode b_Output_put 111 = .ok (.aload_n 0, 1) := by decide +kernel
theorem d_Output_put_112 : decode b_Output_put 112 = .ok (.getfield 15, 3) := by decide +kernel
theorem d_Output_put_115 : decode b_Output_put 115 = .ok (.sipush 128, 3) := by decide +kernel
theorem d_Output_put_118 : decode b_Output_put 118 = .ok (.iload_n 2, 1) := by decide +kernel
theorem d_Output_put_119 : decode b_Output_put 119 = .ok (.bipush 6, 2) := by decide +kernel
theorem d_Output_put_121 : decode b_Output_put 121 = .ok (.iload 4, 2) := by decide +kernel
theorem d_Output_put_123 : decode b_Output_put 123 = .ok (.imul, 1) := by decide +kernel
theorem d_Output_put_124 : decode b_Output_put 124 = .ok (.ishr, 1) := by decide +kernel
theorem d_Output_put_125 : decode b_Output_put 125 = .ok (.bipush 63, 2) := by decide +kernel
theorem d_Output_put_127 : decode b_Output_put 127 = .ok (.iand, 1) := by decide +kernel
theorem d_Output_put_128 : decode b_Output_put 128 = .ok (.ior, 1) := by decide +kernel
theorem d_Output_put_129 : decode b_Output_put 129 = .ok (.invokevirtual 83, 3) := by decide +kernel
theorem d_Output_put_132 : decode b_Output_put 132 = .ok (.iinc 4 (-1), 3) := by decide +kernel
theorem d_Output_put_135 : decode b_Output_put 135 = .ok (.goto (-29), 3) := by decide +kernel
theorem d_Output_put_138 : decode b_Output_put 138 = .ok (.return_, 1) := by decide +kernel
abbrev b_Cases_turned : ByteArray := prog_3_method_2_code
abbrev y_Cases_turned : MethodName := ⟨"ReplacementWriter$Cases", "turned", "(ILReplacementWriter$Turn;)I"⟩
theorem d_Cases_turned_0 : decode b_Cases_turned 0 = .ok (.aload_n 2, 1) := by decide +kernel
theorem d_Cases_turned_1 : decode b_Cases_turned 1 = .ok (.getstatic 17, 3) := by decide +kernel
theorem d_Cases_turned_4 : decode b_Cases_turned 4 = .ok (.if_acmp .ne 5, 3) := by decide +kernel
theorem d_Cases_turned_7 : decode b_Cases_turned 7 = .ok (.iload_n 1, 1) := by decide +kernel
theorem d_Cases_turned_8 : decode b_Cases_turned 8 = .ok (.ireturn, 1) := by decide +kernel
theorem d_Cases_turned_9 : decode b_Cases_turned 9 = .ok (.aload_n 2, 1) := by decide +kernel
theorem d_Cases_turned_10 : decode b_Cases_turned 10 = .ok (.getstatic 23, 3) := by decide +kernel
theorem d_Cases_turned_13 : decode b_Cases_turned 13 = .ok (.if_acmp .ne 7, 3) := by decide +kernel
theorem d_Cases_turned_16 : decode b_Cases_turned 16 = .ok (.iconst 1, 1) := by decide +kernel
theorem d_Cases_turned_17 : decode b_Cases_turned 17 = .ok (.goto 4, 3) := by decide +kernel
theorem d_Cases_turned_20 : decode b_Cases_turned 20 = .ok (.iconst 0, 1) := by decide +kernel
theorem d_Cases_turned_21 : decode b_Cases_turned 21 = .ok (.istore_n 3, 1) := by decide +kernel
theorem d_Cases_turned_22 : decode b_Cases_turned 22 = .ok (.iload_n 3, 1) := by decide +kernel
theorem d_Cases_turned_23 : decode b_Cases_turned 23 = .ok (.ifCond .eq 7, 3) := by decide +kernel
theorem d_Cases_turned_26 : decode b_Cases_turned 26 = .ok (.iconst 2, 1) := by decide +kernel
theorem d_Cases_turned_27 : decode b_Cases_turned 27 = .ok (.goto 4, 3) := by decide +kernel
theorem d_Cases_turned_30 : decode b_Cases_turned 30 = .ok (.iconst 1, 1) := by decide +kernel
theorem d_Cases_turned_31 : decode b_Cases_turned 31 = .ok (.istore 4, 2) := by decide +kernel
theorem d_Cases_turned_33 : decode b_Cases_turned 33 = .ok (.iconst 0, 1) := by decide +kernel
theorem d_Cases_turned_34 : decode b_Cases_turned 34 = .ok (.istore 5, 2) := by decide +kernel
theorem d_Cases_turned_36 : decode b_Cases_turned 36 = .ok (.iload 5, 2) := by decide +kernel
theorem d_Cases_turned_38 : decode b_Cases_turned 38 = .ok (.aload_n 0, 1) := by decide +kernel
theorem d_Cases_turned_39 : decode b_Cases_turned 39 = .ok (.getfield 13, 3) := by decide +kernel
theorem d_Cases_turned_42 : decode b_Cases_turned 42 = .ok (.if_icmp .ge 71, 3) := by decide +kernel
theorem d_Cases_turned_45 : decode b_Cases_turned 45 = .ok (.getstatic 9, 3) := by decide +kernel
theorem d_Cases_turned_48 : decode b_Cases_turned 48 = .ok (.iload 5, 2) := by decide +kernel
theorem d_Cases_turned_50 : decode b_Cases_turned 50 = .ok (.iconst 3, 1) := by decide +kernel
theorem d_Cases_turned_51 : decode b_Cases_turned 51 = .ok (.iadd, 1) := by decide +kernel
theorem d_Cases_turned_52 : decode b_Cases_turned 52 = .ok (.iaload, 1) := by decide +kernel
theorem d_Cases_turned_53 : decode b_Cases_turned 53 = .ok (.istore 6, 2) := by decide +kernel
theorem d_Cases_turned_55 : decode b_Cases_turned 55 = .ok (.iload_n 3, 1) := by decide +kernel
theorem d_Cases_turned_56 : decode b_Cases_turned 56 = .ok (.ifCond .eq 10, 3) := by decide +kernel
theorem d_Cases_turned_59 : decode b_Cases_turned 59 = .ok (.iload_n 1, 1) := by decide +kernel
theorem d_Cases_turned_60 : decode b_Cases_turned 60 = .ok (.iload 6, 2) := by decide +kernel
theorem d_Cases_turned_62 : decode b_Cases_turned 62 = .ok (.isub, 1) := by decide +kernel
theorem d_Cases_turned_63 : decode b_Cases_turned 63 = .ok (.goto 4, 3) := by decide +kernel
theorem d_Cases_turned_66 : decode b_Cases_turned 66 = .ok (.iload_n 1, 1) := by decide +kernel
theorem d_Cases_turned_67 : decode b_Cases_turned 67 = .ok (.istore 7, 2) := by decide +kernel
theorem d_Cases_turned_69 : decode b_Cases_turned 69 = .ok (.getstatic 9, 3) := by decide +kernel
theorem d_Cases_turned_72 : decode b_Cases_turned 72 = .ok (.iload 5, 2) := by decide +kernel
theorem d_Cases_turned_74 : decode b_Cases_turned 74 = .ok (.iconst 4, 1) := by decide +kernel
theorem d_Cases_turned_75 : decode b_Cases_turned 75 = .ok (.iadd, 1) := by decide +kernel
theorem d_Cases_turned_76 : decode b_Cases_turned 76 = .ok (.iaload, 1) := by decide +kernel
theorem d_Cases_turned_77 : decode b_Cases_turned 77 = .ok (.iload 4, 2) := by decide +kernel
theorem d_Cases_turned_79 : decode b_Cases_turned 79 = .ok (.if_icmp .eq 28, 3) := by decide +kernel
theorem d_Cases_turned_82 : decode b_Cases_turned 82 = .ok (.iload 5, 2) := by decide +kernel
theorem d_Cases_turned_84 : decode b_Cases_turned 84 = .ok (.iload 7, 2) := by decide +kernel
theorem d_Cases_turned_86 : decode b_Cases_turned 86 = .ok (.invokestatic 26, 3) := by decide +kernel
theorem d_Cases_turned_89 : decode b_Cases_turned 89 = .ok (.ifCond .eq 18, 3) := by decide +kernel
theorem d_Cases_turned_92 : decode b_Cases_turned 92 = .ok (.iload_n 3, 1) := by decide +kernel
theorem d_Cases_turned_93 : decode b_Cases_turned 93 = .ok (.ifCond .eq 8, 3) := by decide +kernel
theorem d_Cases_turned_96 : decode b_Cases_turned 96 = .ok (.iload 7, 2) := by decide +kernel
theorem d_Cases_turned_98 : decode b_Cases_turned 98 = .ok (.goto 8, 3) := by decide +kernel
theorem d_Cases_turned_101 : decode b_Cases_turned 101 = .ok (.iload 7, 2) := by decide +kernel
theorem d_Cases_turned_103 : decode b_Cases_turned 103 = .ok (.iload 6, 2) := by decide +kernel
theorem d_Cases_turned_105 : decode b_Cases_turned 105 = .ok (.iadd, 1) := by decide +kernel
theorem d_Cases_turned_106 : decode b_Cases_turned 106 = .ok (.ireturn, 1) := by decide +kernel
theorem d_Cases_turned_107 : decode b_Cases_turned 107 = .ok (.iinc 5 5, 3) := by decide +kernel
theorem d_Cases_turned_110 : decode b_Cases_turned 110 = .ok (.goto (-74), 3) := by decide +kernel
theorem d_Cases_turned_113 : decode b_Cases_turned 113 = .ok (.iload_n 1, 1) := by decide +kernel
theorem d_Cases_turned_114 : decode b_Cases_turned 114 = .ok (.ireturn, 1) := by decide +kernel
abbrev b_Cases_isUpperOf : ByteArray := prog_3_method_3_code
abbrev y_Cases_isUpperOf : MethodName := ⟨"ReplacementWriter$Cases", "isUpperOf", "(II)Z"⟩
theorem d_Cases_isUpperOf_0 : decode b_Cases_isUpperOf 0 = .ok (.getstatic 9, 3) := by decide +kernel
theorem d_Cases_isUpperOf_3 : decode b_Cases_isUpperOf 3 = .ok (.iload_n 0, 1) := by decide +kernel
theorem d_Cases_isUpperOf_4 : decode b_Cases_isUpperOf 4 = .ok (.iaload, 1) := by decide +kernel
theorem d_Cases_isUpperOf_5 : decode b_Cases_isUpperOf 5 = .ok (.istore_n 2, 1) := by decide +kernel
theorem d_Cases_isUpperOf_6 : decode b_Cases_isUpperOf 6 = .ok (.getstatic 9, 3) := by decide +kernel
theorem d_Cases_isUpperOf_9 : decode b_Cases_isUpperOf 9 = .ok (.iload_n 0, 1) := by decide +kernel
theorem d_Cases_isUpperOf_10 : decode b_Cases_isUpperOf 10 = .ok (.iconst 2, 1) := by decide +kernel
theorem d_Cases_isUpperOf_11 : decode b_Cases_isUpperOf 11 = .ok (.iadd, 1) := by decide +kernel
theorem d_Cases_isUpperOf_12 : decode b_Cases_isUpperOf 12 = .ok (.iaload, 1) := by decide +kernel
theorem d_Cases_isUpperOf_13 : decode b_Cases_isUpperOf 13 = .ok (.iconst 2, 1) := by decide +kernel
theorem d_Cases_isUpperOf_14 : decode b_Cases_isUpperOf 14 = .ok (.if_icmp .ne 15, 3) := by decide +kernel
theorem d_Cases_isUpperOf_17 : decode b_Cases_isUpperOf 17 = .ok (.iload_n 1, 1) := by decide +kernel
theorem d_Cases_isUpperOf_18 : decode b_Cases_isUpperOf 18 = .ok (.iload_n 2, 1) := by decide +kernel
theorem d_Cases_isUpperOf_19 : decode b_Cases_isUpperOf 19 = .ok (.isub, 1) := by decide +kernel
theorem d_Cases_isUpperOf_20 : decode b_Cases_isUpperOf 20 = .ok (.iconst 1, 1) := by decide +kernel
theorem d_Cases_isUpperOf_21 : decode b_Cases_isUpperOf 21 = .ok (.iand, 1) := by decide +kernel
theorem d_Cases_isUpperOf_22 : decode b_Cases_isUpperOf 22 = .ok (.ifCond .eq 7, 3) := by decide +kernel
theorem d_Cases_isUpperOf_25 : decode b_Cases_isUpperOf 25 = .ok (.iconst 1, 1) := by decide +kernel
theorem d_Cases_isUpperOf_26 : decode b_Cases_isUpperOf 26 = .ok (.goto 4, 3) := by decide +kernel
theorem d_Cases_isUpperOf_29 : decode b_Cases_isUpperOf 29 = .ok (.iconst 0, 1) := by decide +kernel
theorem d_Cases_isUpperOf_30 : decode b_Cases_isUpperOf 30 = .ok (.istore_n 3, 1) := by decide +kernel
theorem d_Cases_isUpperOf_31 : decode b_Cases_isUpperOf 31 = .ok (.iload_n 1, 1) := by decide +kernel
theorem d_Cases_isUpperOf_32 : decode b_Cases_isUpperOf 32 = .ok (.iload_n 2, 1) := by decide +kernel
theorem d_Cases_isUpperOf_33 : decode b_Cases_isUpperOf 33 = .ok (.if_icmp .lt 22, 3) := by decide +kernel
theorem d_Cases_isUpperOf_36 : decode b_Cases_isUpperOf 36 = .ok (.iload_n 1, 1) := by decide +kernel
theorem d_Cases_isUpperOf_37 : decode b_Cases_isUpperOf 37 = .ok (.getstatic 9, 3) := by decide +kernel
theorem d_Cases_isUpperOf_40 : decode b_Cases_isUpperOf 40 = .ok (.iload_n 0, 1) := by decide +kernel
theorem d_Cases_isUpperOf_41 : decode b_Cases_isUpperOf 41 = .ok (.iconst 1, 1) := by decide +kernel
theorem d_Cases_isUpperOf_42 : decode b_Cases_isUpperOf 42 = .ok (.iadd, 1) := by decide +kernel
theorem d_Cases_isUpperOf_43 : decode b_Cases_isUpperOf 43 = .ok (.iaload, 1) := by decide +kernel
theorem d_Cases_isUpperOf_44 : decode b_Cases_isUpperOf 44 = .ok (.if_icmp .gt 11, 3) := by decide +kernel
theorem d_Cases_isUpperOf_47 : decode b_Cases_isUpperOf 47 = .ok (.iload_n 3, 1) := by decide +kernel
theorem d_Cases_isUpperOf_48 : decode b_Cases_isUpperOf 48 = .ok (.ifCond .ne 7, 3) := by decide +kernel
theorem d_Cases_isUpperOf_51 : decode b_Cases_isUpperOf 51 = .ok (.iconst 1, 1) := by decide +kernel
theorem d_Cases_isUpperOf_52 : decode b_Cases_isUpperOf 52 = .ok (.goto 4, 3) := by decide +kernel
theorem d_Cases_isUpperOf_55 : decode b_Cases_isUpperOf 55 = .ok (.iconst 0, 1) := by decide +kernel
theorem d_Cases_isUpperOf_56 : decode b_Cases_isUpperOf 56 = .ok (.ireturn, 1) := by decide +kernel
abbrev b_Groups_markText : ByteArray := prog_6_method_5_code
abbrev y_Groups_markText : MethodName := ⟨"ReplacementWriter$Groups", "markText", "()LReplacementWriter$Row;"⟩
theorem d_Groups_markText_0 : decode b_Groups_markText 0 = .ok (.aload_n 0, 1) := by decide +kernel
theorem d_Groups_markText_1 : decode b_Groups_markText 1 = .ok (.getfield 32, 3) := by decide +kernel
theorem d_Groups_markText_4 : decode b_Groups_markText 4 = .ok (.areturn, 1) := by decide +kernel
abbrev b_Groups_numbered : ByteArray := prog_6_method_13_code
abbrev y_Groups_numbered : MethodName := ⟨"ReplacementWriter$Groups", "numbered", "(I)I"⟩
theorem d_Groups_numbered_0 : decode b_Groups_numbered 0 = .ok (.aload_n 0, 1) := by decide +kernel
theorem d_Groups_numbered_1 : decode b_Groups_numbered 1 = .ok (.iload_n 1, 1) := by decide +kernel
theorem d_Groups_numbered_2 : decode b_Groups_numbered 2 = .ok (.invokevirtual 97, 3) := by decide +kernel
theorem d_Groups_numbered_5 : decode b_Groups_numbered 5 = .ok (.ifCond .ne 6, 3) := by decide +kernel
theorem d_Groups_numbered_8 : decode b_Groups_numbered 8 = .ok (.bipush (-2), 2) := by decide +kernel
theorem d_Groups_numbered_10 : decode b_Groups_numbered 10 = .ok (.ireturn, 1) := by decide +kernel
theorem d_Groups_numbered_11 : decode b_Groups_numbered 11 = .ok (.aload_n 0, 1) := by decide +kernel
theorem d_Groups_numbered_12 : decode b_Groups_numbered 12 = .ok (.getfield 17, 3) := by decide +kernel
theorem d_Groups_numbered_15 : decode b_Groups_numbered 15 = .ok (.iload_n 1, 1) := by decide +kernel
theorem d_Groups_numbered_16 : decode b_Groups_numbered 16 = .ok (.baload, 1) := by decide +kernel
theorem d_Groups_numbered_17 : decode b_Groups_numbered 17 = .ok (.ifCond .eq 7, 3) := by decide +kernel
theorem d_Groups_numbered_20 : decode b_Groups_numbered 20 = .ok (.iload_n 1, 1) := by decide +kernel
theorem d_Groups_numbered_21 : decode b_Groups_numbered 21 = .ok (.goto 4, 3) := by decide +kernel
theorem d_Groups_numbered_24 : decode b_Groups_numbered 24 = .ok (.iconst (-1), 1) := by decide +kernel
theorem d_Groups_numbered_25 : decode b_Groups_numbered 25 = .ok (.ireturn, 1) := by decide +kernel
abbrev b_Groups_named : ByteArray := prog_6_method_14_code
abbrev y_Groups_named : MethodName := ⟨"ReplacementWriter$Groups", "named", "(LReplacementWriter$Row;II)I"⟩
theorem d_Groups_named_0 : decode b_Groups_named 0 = .ok (.bipush (-2), 2) := by decide +kernel
theorem d_Groups_named_2 : decode b_Groups_named 2 = .ok (.istore 4, 2) := by decide +kernel
theorem d_Groups_named_4 : decode b_Groups_named 4 = .ok (.iconst 0, 1) := by decide +kernel
theorem d_Groups_named_5 : decode b_Groups_named 5 = .ok (.istore 5, 2) := by decide +kernel
theorem d_Groups_named_7 : decode b_Groups_named 7 = .ok (.iload 5, 2) := by decide +kernel
theorem d_Groups_named_9 : decode b_Groups_named 9 = .ok (.aload_n 0, 1) := by decide +kernel
theorem d_Groups_named_10 : decode b_Groups_named 10 = .ok (.getfield 24, 3) := by decide +kernel
theorem d_Groups_named_13 : decode b_Groups_named 13 = .ok (.invokevirtual 70, 3) := by decide +kernel
theorem d_Groups_named_16 : decode b_Groups_named 16 = .ok (.if_icmp .ge 88, 3) := by decide +kernel
theorem d_Groups_named_19 : decode b_Groups_named 19 = .ok (.aload_n 0, 1) := by decide +kernel
theorem d_Groups_named_20 : decode b_Groups_named 20 = .ok (.getfield 24, 3) := by decide +kernel
theorem d_Groups_named_23 : decode b_Groups_named 23 = .ok (.iload 5, 2) := by decide +kernel
theorem d_Groups_named_25 : decode b_Groups_named 25 = .ok (.invokevirtual 73, 3) := by decide +kernel
theorem d_Groups_named_28 : decode b_Groups_named 28 = .ok (.checkcast 77, 3) := by decide +kernel
theorem d_Groups_named_31 : decode b_Groups_named 31 = .ok (.astore 6, 2) := by decide +kernel
theorem d_Groups_named_33 : decode b_Groups_named 33 = .ok (.aload 6, 2) := by decide +kernel
theorem d_Groups_named_35 : decode b_Groups_named 35 = .ok (.aload_n 1, 1) := by decide +kernel
theorem d_Groups_named_36 : decode b_Groups_named 36 = .ok (.iload_n 2, 1) := by decide +kernel
theorem d_Groups_named_37 : decode b_Groups_named 37 = .ok (.iload_n 3, 1) := by decide +kernel
theorem d_Groups_named_38 : decode b_Groups_named 38 = .ok (.invokevirtual 82, 3) := by decide +kernel
theorem d_Groups_named_41 : decode b_Groups_named 41 = .ok (.ifCond .ne 6, 3) := by decide +kernel
theorem d_Groups_named_44 : decode b_Groups_named 44 = .ok (.goto 54, 3) := by decide +kernel
theorem d_Groups_named_47 : decode b_Groups_named 47 = .ok (.aload_n 0, 1) := by decide +kernel
theorem d_Groups_named_48 : decode b_Groups_named 48 = .ok (.getfield 17, 3) := by decide +kernel
theorem d_Groups_named_51 : decode b_Groups_named 51 = .ok (.aload 6, 2) := by decide +kernel
theorem d_Groups_named_53 : decode b_Groups_named 53 = .ok (.getfield 79, 3) := by decide +kernel
theorem d_Groups_named_56 : decode b_Groups_named 56 = .ok (.baload, 1) := by decide +kernel
theorem d_Groups_named_57 : decode b_Groups_named 57 = .ok (.ifCond .eq 31, 3) := by decide +kernel
theorem d_Groups_named_60 : decode b_Groups_named 60 = .ok (.iload 4, 2) := by decide +kernel
theorem d_Groups_named_62 : decode b_Groups_named 62 = .ok (.ifCond .ge 11, 3) := by decide +kernel
theorem d_Groups_named_65 : decode b_Groups_named 65 = .ok (.aload 6, 2) := by decide +kernel
theorem d_Groups_named_67 : decode b_Groups_named 67 = .ok (.getfield 79, 3) := by decide +kernel
theorem d_Groups_named_70 : decode b_Groups_named 70 = .ok (.goto 13, 3) := by decide +kernel
theorem d_Groups_named_73 : decode b_Groups_named 73 = .ok (.iload 4, 2) := by decide +kernel
theorem d_Groups_named_75 : decode b_Groups_named 75 = .ok (.aload 6, 2) := by decide +kernel
theorem d_Groups_named_77 : decode b_Groups_named 77 = .ok (.getfield 79, 3) := by decide +kernel
theorem d_Groups_named_80 : decode b_Groups_named 80 = .ok (.invokestatic 100, 3) := by decide +kernel
theorem d_Groups_named_83 : decode b_Groups_named 83 = .ok (.istore 4, 2) := by decide +kernel
theorem d_Groups_named_85 : decode b_Groups_named 85 = .ok (.goto 13, 3) := by decide +kernel
theorem d_Groups_named_88 : decode b_Groups_named 88 = .ok (.iload 4, 2) := by decide +kernel
theorem d_Groups_named_90 : decode b_Groups_named 90 = .ok (.bipush (-2), 2) := by decide +kernel
theorem d_Groups_named_92 : decode b_Groups_named 92 = .ok (.if_icmp .ne 6, 3) := by decide +kernel
theorem d_Groups_named_95 : decode b_Groups_named 95 = .ok (.iconst (-1), 1) := by decide +kernel
theorem d_Groups_named_96 : decode b_Groups_named 96 = .ok (.istore 4, 2) := by decide +kernel
theorem d_Groups_named_98 : decode b_Groups_named 98 = .ok (.iinc 5 1, 3) := by decide +kernel
theorem d_Groups_named_101 : decode b_Groups_named 101 = .ok (.goto (-94), 3) := by decide +kernel
theorem d_Groups_named_104 : decode b_Groups_named 104 = .ok (.iload 4, 2) := by decide +kernel
theorem d_Groups_named_106 : decode b_Groups_named 106 = .ok (.ireturn, 1) := by decide +kernel
abbrev b_Groups_textOf : ByteArray := prog_6_method_10_code
abbrev y_Groups_textOf : MethodName := ⟨"ReplacementWriter$Groups", "textOf", "(I)LReplacementWriter$Row;"⟩
theorem d_Groups_textOf_0 : decode b_Groups_textOf 0 = .ok (.aload_n 0, 1) := by decide +kernel
theorem d_Groups_textOf_1 : decode b_Groups_textOf 1 = .ok (.getfield 11, 3) := by decide +kernel
theorem d_Groups_textOf_4 : decode b_Groups_textOf 4 = .ok (.iload_n 1, 1) := by decide +kernel
theorem d_Groups_textOf_5 : decode b_Groups_textOf 5 = .ok (.aaload, 1) := by decide +kernel
theorem d_Groups_textOf_6 : decode b_Groups_textOf 6 = .ok (.areturn, 1) := by decide +kernel
abbrev b_Output_turnFromHere : ByteArray := prog_8_method_5_code
abbrev y_Output_turnFromHere : MethodName := ⟨"ReplacementWriter$Output", "turnFromHere", "(LReplacementWriter$Turn;)V"⟩
theorem d_Output_turnFromHere_0 : decode b_Output_turnFromHere 0 = .ok (.aload_n 0, 1) := by decide +kernel
theorem d_Output_turnFromHere_1 : decode b_Output_turnFromHere 1 = .ok (.aload_n 1, 1) := by decide +kernel
theorem d_Output_turnFromHere_2 : decode b_Output_turnFromHere 2 = .ok (.putfield 27, 3) := by decide +kernel
theorem d_Output_turnFromHere_5 : decode b_Output_turnFromHere 5 = .ok (.return_, 1) := by decide +kernel
abbrev b_Output_turnNext : ByteArray := prog_8_method_6_code
abbrev y_Output_turnNext : MethodName := ⟨"ReplacementWriter$Output", "turnNext", "(LReplacementWriter$Turn;)V"⟩
theorem d_Output_turnNext_0 : decode b_Output_turnNext 0 = .ok (.aload_n 0, 1) := by decide +kernel
theorem d_Output_turnNext_1 : decode b_Output_turnNext 1 = .ok (.aload_n 1, 1) := by decide +kernel
theorem d_Output_turnNext_2 : decode b_Output_turnNext 2 = .ok (.putfield 30, 3) := by decide +kernel
theorem d_Output_turnNext_5 : decode b_Output_turnNext 5 = .ok (.return_, 1) := by decide +kernel
abbrev b_Ascii_digit : ByteArray := prog_2_method_5_code
abbrev y_Ascii_digit : MethodName := ⟨"ReplacementWriter$Ascii", "digit", "(II)I"⟩
theorem d_Ascii_digit_0 : decode b_Ascii_digit 0 = .ok (.iconst (-1), 1) := by decide +kernel
theorem d_Ascii_digit_1 : decode b_Ascii_digit 1 = .ok (.istore_n 2, 1) := by decide +kernel
theorem d_Ascii_digit_2 : decode b_Ascii_digit 2 = .ok (.iload_n 0, 1) := by decide +kernel
theorem d_Ascii_digit_3 : decode b_Ascii_digit 3 = .ok (.bipush 48, 2) := by decide +kernel
theorem d_Ascii_digit_5 : decode b_Ascii_digit 5 = .ok (.if_icmp .lt 17, 3) := by decide +kernel
theorem d_Ascii_digit_8 : decode b_Ascii_digit 8 = .ok (.iload_n 0, 1) := by decide +kernel
theorem d_Ascii_digit_9 : decode b_Ascii_digit 9 = .ok (.bipush 57, 2) := by decide +kernel
theorem d_Ascii_digit_11 : decode b_Ascii_digit 11 = .ok (.if_icmp .gt 11, 3) := by decide +kernel
theorem d_Ascii_digit_14 : decode b_Ascii_digit 14 = .ok (.iload_n 0, 1) := by decide +kernel
theorem d_Ascii_digit_15 : decode b_Ascii_digit 15 = .ok (.bipush 48, 2) := by decide +kernel
theorem d_Ascii_digit_17 : decode b_Ascii_digit 17 = .ok (.isub, 1) := by decide +kernel
theorem d_Ascii_digit_18 : decode b_Ascii_digit 18 = .ok (.istore_n 2, 1) := by decide +kernel
theorem d_Ascii_digit_19 : decode b_Ascii_digit 19 = .ok (.goto 46, 3) := by decide +kernel
theorem d_Ascii_digit_22 : decode b_Ascii_digit 22 = .ok (.iload_n 0, 1) := by decide +kernel
theorem d_Ascii_digit_23 : decode b_Ascii_digit 23 = .ok (.bipush 97, 2) := by decide +kernel
theorem d_Ascii_digit_25 : decode b_Ascii_digit 25 = .ok (.if_icmp .lt 20, 3) := by decide +kernel
theorem d_Ascii_digit_28 : decode b_Ascii_digit 28 = .ok (.iload_n 0, 1) := by decide +kernel
theorem d_Ascii_digit_29 : decode b_Ascii_digit 29 = .ok (.bipush 102, 2) := by decide +kernel
theorem d_Ascii_digit_31 : decode b_Ascii_digit 31 = .ok (.if_icmp .gt 14, 3) := by decide +kernel
theorem d_Ascii_digit_34 : decode b_Ascii_digit 34 = .ok (.iload_n 0, 1) := by decide +kernel
theorem d_Ascii_digit_35 : decode b_Ascii_digit 35 = .ok (.bipush 97, 2) := by decide +kernel
theorem d_Ascii_digit_37 : decode b_Ascii_digit 37 = .ok (.isub, 1) := by decide +kernel
theorem d_Ascii_digit_38 : decode b_Ascii_digit 38 = .ok (.bipush 10, 2) := by decide +kernel
theorem d_Ascii_digit_40 : decode b_Ascii_digit 40 = .ok (.iadd, 1) := by decide +kernel
theorem d_Ascii_digit_41 : decode b_Ascii_digit 41 = .ok (.istore_n 2, 1) := by decide +kernel
theorem d_Ascii_digit_42 : decode b_Ascii_digit 42 = .ok (.goto 23, 3) := by decide +kernel
theorem d_Ascii_digit_45 : decode b_Ascii_digit 45 = .ok (.iload_n 0, 1) := by decide +kernel
theorem d_Ascii_digit_46 : decode b_Ascii_digit 46 = .ok (.bipush 65, 2) := by decide +kernel
theorem d_Ascii_digit_48 : decode b_Ascii_digit 48 = .ok (.if_icmp .lt 17, 3) := by decide +kernel
theorem d_Ascii_digit_51 : decode b_Ascii_digit 51 = .ok (.iload_n 0, 1) := by decide +kernel
theorem d_Ascii_digit_52 : decode b_Ascii_digit 52 = .ok (.bipush 70, 2) := by decide +kernel
theorem d_Ascii_digit_54 : decode b_Ascii_digit 54 = .ok (.if_icmp .gt 11, 3) := by decide +kernel
theorem d_Ascii_digit_57 : decode b_Ascii_digit 57 = .ok (.iload_n 0, 1) := by decide +kernel
theorem d_Ascii_digit_58 : decode b_Ascii_digit 58 = .ok (.bipush 65, 2) := by decide +kernel
theorem d_Ascii_digit_60 : decode b_Ascii_digit 60 = .ok (.isub, 1) := by decide +kernel
theorem d_Ascii_digit_61 : decode b_Ascii_digit 61 = .ok (.bipush 10, 2) := by decide +kernel
theorem d_Ascii_digit_63 : decode b_Ascii_digit 63 = .ok (.iadd, 1) := by decide +kernel
theorem d_Ascii_digit_64 : decode b_Ascii_digit 64 = .ok (.istore_n 2, 1) := by decide +kernel
theorem d_Ascii_digit_65 : decode b_Ascii_digit 65 = .ok (.iload_n 2, 1) := by decide +kernel
theorem d_Ascii_digit_66 : decode b_Ascii_digit 66 = .ok (.iload_n 1, 1) := by decide +kernel
theorem d_Ascii_digit_67 : decode b_Ascii_digit 67 = .ok (.if_icmp .ge 7, 3) := by decide +kernel
theorem d_Ascii_digit_70 : decode b_Ascii_digit 70 = .ok (.iload_n 2, 1) := by decide +kernel
theorem d_Ascii_digit_71 : decode b_Ascii_digit 71 = .ok (.goto 4, 3) := by decide +kernel
theorem d_Ascii_digit_74 : decode b_Ascii_digit 74 = .ok (.iconst (-1), 1) := by decide +kernel
theorem d_Ascii_digit_75 : decode b_Ascii_digit 75 = .ok (.ireturn, 1) := by decide +kernel
abbrev b_Output_isFull : ByteArray := prog_8_method_4_code
abbrev y_Output_isFull : MethodName := ⟨"ReplacementWriter$Output", "isFull", "()Z"⟩
theorem d_Output_isFull_0 : decode b_Output_isFull 0 = .ok (.aload_n 0, 1) := by decide +kernel
theorem d_Output_isFull_1 : decode b_Output_isFull 1 = .ok (.getfield 33, 3) := by decide +kernel
theorem d_Output_isFull_4 : decode b_Output_isFull 4 = .ok (.ireturn, 1) := by decide +kernel
