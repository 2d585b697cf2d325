/-! Codes and what decodes from them. Laid by mkbase.py. -/
abbrev b_Template_init : ByteArray := prog_17_method_1_code
abbrev y_Template_init : MethodName := ⟨"ReplacementWriterModel$Template", "<init>", "(LReplacementWriterModel$Table;)V"⟩
theorem d_Template_init_0 : decode b_Template_init 0 = .ok (.aload_n 0, 1) := by decide +kernel
theorem d_Template_init_1 : decode b_Template_init 1 = .ok (.invokespecial 1, 3) := by decide +kernel
theorem d_Template_init_4 : decode b_Template_init 4 = .ok (.aload_n 0, 1) := by decide +kernel
theorem d_Template_init_5 : decode b_Template_init 5 = .ok (.aconst_null, 1) := by decide +kernel
theorem d_Template_init_6 : decode b_Template_init 6 = .ok (.putfield 7, 3) := by decide +kernel
theorem d_Template_init_9 : decode b_Template_init 9 = .ok (.aload_n 0, 1) := by decide +kernel
theorem d_Template_init_10 : decode b_Template_init 10 = .ok (.iconst 0, 1) := by decide +kernel
theorem d_Template_init_11 : decode b_Template_init 11 = .ok (.putfield 13, 3) := by decide +kernel
theorem d_Template_init_14 : decode b_Template_init 14 = .ok (.aload_n 0, 1) := by decide +kernel
theorem d_Template_init_15 : decode b_Template_init 15 = .ok (.iconst 0, 1) := by decide +kernel
theorem d_Template_init_16 : decode b_Template_init 16 = .ok (.putfield 17, 3) := by decide +kernel
theorem d_Template_init_19 : decode b_Template_init 19 = .ok (.aload_n 0, 1) := by decide +kernel
theorem d_Template_init_20 : decode b_Template_init 20 = .ok (.iconst 0, 1) := by decide +kernel
theorem d_Template_init_21 : decode b_Template_init 21 = .ok (.putfield 20, 3) := by decide +kernel
theorem d_Template_init_24 : decode b_Template_init 24 = .ok (.aload_n 0, 1) := by decide +kernel
theorem d_Template_init_25 : decode b_Template_init 25 = .ok (.bipush 64, 2) := by decide +kernel
theorem d_Template_init_27 : decode b_Template_init 27 = .ok (.newarray .int, 2) := by decide +kernel
theorem d_Template_init_29 : decode b_Template_init 29 = .ok (.putfield 23, 3) := by decide +kernel
theorem d_Template_init_32 : decode b_Template_init 32 = .ok (.aload_n 0, 1) := by decide +kernel
theorem d_Template_init_33 : decode b_Template_init 33 = .ok (.iconst 0, 1) := by decide +kernel
theorem d_Template_init_34 : decode b_Template_init 34 = .ok (.putfield 27, 3) := by decide +kernel
theorem d_Template_init_37 : decode b_Template_init 37 = .ok (.aload_n 0, 1) := by decide +kernel
theorem d_Template_init_38 : decode b_Template_init 38 = .ok (.sipush 256, 3) := by decide +kernel
theorem d_Template_init_41 : decode b_Template_init 41 = .ok (.newarray .byte, 2) := by decide +kernel
theorem d_Template_init_43 : decode b_Template_init 43 = .ok (.putfield 31, 3) := by decide +kernel
theorem d_Template_init_46 : decode b_Template_init 46 = .ok (.aload_n 0, 1) := by decide +kernel
theorem d_Template_init_47 : decode b_Template_init 47 = .ok (.iconst 0, 1) := by decide +kernel
theorem d_Template_init_48 : decode b_Template_init 48 = .ok (.putfield 35, 3) := by decide +kernel
theorem d_Template_init_51 : decode b_Template_init 51 = .ok (.aload_n 0, 1) := by decide +kernel
theorem d_Template_init_52 : decode b_Template_init 52 = .ok (.iconst 0, 1) := by decide +kernel
theorem d_Template_init_53 : decode b_Template_init 53 = .ok (.putfield 38, 3) := by decide +kernel
theorem d_Template_init_56 : decode b_Template_init 56 = .ok (.aload_n 0, 1) := by decide +kernel
theorem d_Template_init_57 : decode b_Template_init 57 = .ok (.iconst 0, 1) := by decide +kernel
theorem d_Template_init_58 : decode b_Template_init 58 = .ok (.putfield 41, 3) := by decide +kernel
theorem d_Template_init_61 : decode b_Template_init 61 = .ok (.aload_n 0, 1) := by decide +kernel
theorem d_Template_init_62 : decode b_Template_init 62 = .ok (.iconst (-1), 1) := by decide +kernel
theorem d_Template_init_63 : decode b_Template_init 63 = .ok (.putfield 44, 3) := by decide +kernel
theorem d_Template_init_66 : decode b_Template_init 66 = .ok (.aload_n 0, 1) := by decide +kernel
theorem d_Template_init_67 : decode b_Template_init 67 = .ok (.iconst 0, 1) := by decide +kernel
theorem d_Template_init_68 : decode b_Template_init 68 = .ok (.putfield 47, 3) := by decide +kernel
theorem d_Template_init_71 : decode b_Template_init 71 = .ok (.aload_n 0, 1) := by decide +kernel
theorem d_Template_init_72 : decode b_Template_init 72 = .ok (.aload_n 1, 1) := by decide +kernel
theorem d_Template_init_73 : decode b_Template_init 73 = .ok (.putfield 50, 3) := by decide +kernel
theorem d_Template_init_76 : decode b_Template_init 76 = .ok (.return_, 1) := by decide +kernel
abbrev b_Template_digit : ByteArray := prog_17_method_7_code
abbrev y_Template_digit : MethodName := ⟨"ReplacementWriterModel$Template", "digit", "(I)Z"⟩
theorem d_Template_digit_0 : decode b_Template_digit 0 = .ok (.iload_n 0, 1) := by decide +kernel
theorem d_Template_digit_1 : decode b_Template_digit 1 = .ok (.bipush 48, 2) := by decide +kernel
theorem d_Template_digit_3 : decode b_Template_digit 3 = .ok (.if_icmp .lt 13, 3) := by decide +kernel
theorem d_Template_digit_6 : decode b_Template_digit 6 = .ok (.iload_n 0, 1) := by decide +kernel
theorem d_Template_digit_7 : decode b_Template_digit 7 = .ok (.bipush 57, 2) := by decide +kernel
theorem d_Template_digit_9 : decode b_Template_digit 9 = .ok (.if_icmp .gt 7, 3) := by decide +kernel
theorem d_Template_digit_12 : decode b_Template_digit 12 = .ok (.iconst 1, 1) := by decide +kernel
theorem d_Template_digit_13 : decode b_Template_digit 13 = .ok (.goto 4, 3) := by decide +kernel
theorem d_Template_digit_16 : decode b_Template_digit 16 = .ok (.iconst 0, 1) := by decide +kernel
theorem d_Template_digit_17 : decode b_Template_digit 17 = .ok (.ireturn, 1) := by decide +kernel
abbrev b_Template_wordly : ByteArray := prog_17_method_9_code
abbrev y_Template_wordly : MethodName := ⟨"ReplacementWriterModel$Template", "wordly", "(I)Z"⟩
theorem d_Template_wordly_0 : decode b_Template_wordly 0 = .ok (.iload_n 0, 1) := by decide +kernel
theorem d_Template_wordly_1 : decode b_Template_wordly 1 = .ok (.invokestatic 85, 3) := by decide +kernel
theorem d_Template_wordly_4 : decode b_Template_wordly 4 = .ok (.ifCond .ne 16, 3) := by decide +kernel
theorem d_Template_wordly_7 : decode b_Template_wordly 7 = .ok (.iload_n 0, 1) := by decide +kernel
theorem d_Template_wordly_8 : decode b_Template_wordly 8 = .ok (.invokestatic 88, 3) := by decide +kernel
theorem d_Template_wordly_11 : decode b_Template_wordly 11 = .ok (.ifCond .ne 9, 3) := by decide +kernel
theorem d_Template_wordly_14 : decode b_Template_wordly 14 = .ok (.iload_n 0, 1) := by decide +kernel
theorem d_Template_wordly_15 : decode b_Template_wordly 15 = .ok (.bipush 95, 2) := by decide +kernel
theorem d_Template_wordly_17 : decode b_Template_wordly 17 = .ok (.if_icmp .ne 7, 3) := by decide +kernel
theorem d_Template_wordly_20 : decode b_Template_wordly 20 = .ok (.iconst 1, 1) := by decide +kernel
theorem d_Template_wordly_21 : decode b_Template_wordly 21 = .ok (.goto 4, 3) := by decide +kernel
theorem d_Template_wordly_24 : decode b_Template_wordly 24 = .ok (.iconst 0, 1) := by decide +kernel
theorem d_Template_wordly_25 : decode b_Template_wordly 25 = .ok (.ireturn, 1) := by decide +kernel
abbrev b_Template_letter : ByteArray := prog_17_method_8_code
abbrev y_Template_letter : MethodName := ⟨"ReplacementWriterModel$Template", "letter", "(I)Z"⟩
theorem d_Template_letter_0 : decode b_Template_letter 0 = .ok (.iload_n 0, 1) := by decide +kernel
theorem d_Template_letter_1 : decode b_Template_letter 1 = .ok (.bipush 97, 2) := by decide +kernel
theorem d_Template_letter_3 : decode b_Template_letter 3 = .ok (.if_icmp .lt 9, 3) := by decide +kernel
theorem d_Template_letter_6 : decode b_Template_letter 6 = .ok (.iload_n 0, 1) := by decide +kernel
theorem d_Template_letter_7 : decode b_Template_letter 7 = .ok (.bipush 122, 2) := by decide +kernel
theorem d_Template_letter_9 : decode b_Template_letter 9 = .ok (.if_icmp .le 15, 3) := by decide +kernel
theorem d_Template_letter_12 : decode b_Template_letter 12 = .ok (.iload_n 0, 1) := by decide +kernel
theorem d_Template_letter_13 : decode b_Template_letter 13 = .ok (.bipush 65, 2) := by decide +kernel
theorem d_Template_letter_15 : decode b_Template_letter 15 = .ok (.if_icmp .lt 13, 3) := by decide +kernel
theorem d_Template_letter_18 : decode b_Template_letter 18 = .ok (.iload_n 0, 1) := by decide +kernel
theorem d_Template_letter_19 : decode b_Template_letter 19 = .ok (.bipush 90, 2) := by decide +kernel
theorem d_Template_letter_21 : decode b_Template_letter 21 = .ok (.if_icmp .gt 7, 3) := by decide +kernel
theorem d_Template_letter_24 : decode b_Template_letter 24 = .ok (.iconst 1, 1) := by decide +kernel
theorem d_Template_letter_25 : decode b_Template_letter 25 = .ok (.goto 4, 3) := by decide +kernel
theorem d_Template_letter_28 : decode b_Template_letter 28 = .ok (.iconst 0, 1) := by decide +kernel
theorem d_Template_letter_29 : decode b_Template_letter 29 = .ok (.ireturn, 1) := by decide +kernel
abbrev b_Template_write : ByteArray := prog_17_method_12_code
abbrev y_Template_write : MethodName := ⟨"ReplacementWriterModel$Template", "write", "(LReplacementWriterModel$Source;I)I"⟩
theorem d_Template_write_0 : decode b_Template_write 0 = .ok (.aload_n 0, 1) := by decide +kernel
theorem d_Template_write_1 : decode b_Template_write 1 = .ok (.aload_n 1, 1) := by decide +kernel
theorem d_Template_write_2 : decode b_Template_write 2 = .ok (.putfield 7, 3) := by decide +kernel
theorem d_Template_write_5 : decode b_Template_write 5 = .ok (.aload_n 0, 1) := by decide +kernel
theorem d_Template_write_6 : decode b_Template_write 6 = .ok (.iload_n 2, 1) := by decide +kernel
theorem d_Template_write_7 : decode b_Template_write 7 = .ok (.sipush 512, 3) := by decide +kernel
theorem d_Template_write_10 : decode b_Template_write 10 = .ok (.iand, 1) := by decide +kernel
theorem d_Template_write_11 : decode b_Template_write 11 = .ok (.ifCond .eq 7, 3) := by decide +kernel
theorem d_Template_write_14 : decode b_Template_write 14 = .ok (.iconst 1, 1) := by decide +kernel
theorem d_Template_write_15 : decode b_Template_write 15 = .ok (.goto 4, 3) := by decide +kernel
theorem d_Template_write_18 : decode b_Template_write 18 = .ok (.iconst 0, 1) := by decide +kernel
theorem d_Template_write_19 : decode b_Template_write 19 = .ok (.putfield 13, 3) := by decide +kernel
theorem d_Template_write_22 : decode b_Template_write 22 = .ok (.aload_n 0, 1) := by decide +kernel
theorem d_Template_write_23 : decode b_Template_write 23 = .ok (.iload_n 2, 1) := by decide +kernel
theorem d_Template_write_24 : decode b_Template_write 24 = .ok (.sipush 1024, 3) := by decide +kernel
theorem d_Template_write_27 : decode b_Template_write 27 = .ok (.iand, 1) := by decide +kernel
theorem d_Template_write_28 : decode b_Template_write 28 = .ok (.ifCond .eq 7, 3) := by decide +kernel
theorem d_Template_write_31 : decode b_Template_write 31 = .ok (.iconst 1, 1) := by decide +kernel
theorem d_Template_write_32 : decode b_Template_write 32 = .ok (.goto 4, 3) := by decide +kernel
theorem d_Template_write_35 : decode b_Template_write 35 = .ok (.iconst 0, 1) := by decide +kernel
theorem d_Template_write_36 : decode b_Template_write 36 = .ok (.putfield 17, 3) := by decide +kernel
theorem d_Template_write_39 : decode b_Template_write 39 = .ok (.aload_n 0, 1) := by decide +kernel
theorem d_Template_write_40 : decode b_Template_write 40 = .ok (.iload_n 2, 1) := by decide +kernel
theorem d_Template_write_41 : decode b_Template_write 41 = .ok (.sipush 2048, 3) := by decide +kernel
theorem d_Template_write_44 : decode b_Template_write 44 = .ok (.iand, 1) := by decide +kernel
theorem d_Template_write_45 : decode b_Template_write 45 = .ok (.ifCond .eq 7, 3) := by decide +kernel
theorem d_Template_write_48 : decode b_Template_write 48 = .ok (.iconst 1, 1) := by decide +kernel
theorem d_Template_write_49 : decode b_Template_write 49 = .ok (.goto 4, 3) := by decide +kernel
theorem d_Template_write_52 : decode b_Template_write 52 = .ok (.iconst 0, 1) := by decide +kernel
theorem d_Template_write_53 : decode b_Template_write 53 = .ok (.putfield 20, 3) := by decide +kernel
theorem d_Template_write_56 : decode b_Template_write 56 = .ok (.aload_n 0, 1) := by decide +kernel
theorem d_Template_write_57 : decode b_Template_write 57 = .ok (.iconst 0, 1) := by decide +kernel
theorem d_Template_write_58 : decode b_Template_write 58 = .ok (.putfield 38, 3) := by decide +kernel
theorem d_Template_write_61 : decode b_Template_write 61 = .ok (.aload_n 0, 1) := by decide +kernel
theorem d_Template_write_62 : decode b_Template_write 62 = .ok (.iconst 0, 1) := by decide +kernel
theorem d_Template_write_63 : decode b_Template_write 63 = .ok (.putfield 41, 3) := by decide +kernel
theorem d_Template_write_66 : decode b_Template_write 66 = .ok (.aload_n 0, 1) := by decide +kernel
theorem d_Template_write_67 : decode b_Template_write 67 = .ok (.iconst (-1), 1) := by decide +kernel
theorem d_Template_write_68 : decode b_Template_write 68 = .ok (.putfield 44, 3) := by decide +kernel
theorem d_Template_write_71 : decode b_Template_write 71 = .ok (.iload_n 2, 1) := by decide +kernel
theorem d_Template_write_72 : decode b_Template_write 72 = .ok (.sipush 4096, 3) := by decide +kernel
theorem d_Template_write_75 : decode b_Template_write 75 = .ok (.iand, 1) := by decide +kernel
theorem d_Template_write_76 : decode b_Template_write 76 = .ok (.ifCond .eq 37, 3) := by decide +kernel
theorem d_Template_write_79 : decode b_Template_write 79 = .ok (.iconst 0, 1) := by decide +kernel
theorem d_Template_write_80 : decode b_Template_write 80 = .ok (.istore_n 3, 1) := by decide +kernel
theorem d_Template_write_81 : decode b_Template_write 81 = .ok (.iload_n 3, 1) := by decide +kernel
theorem d_Template_write_82 : decode b_Template_write 82 = .ok (.aload_n 0, 1) := by decide +kernel
theorem d_Template_write_83 : decode b_Template_write 83 = .ok (.getfield 27, 3) := by decide +kernel
theorem d_Template_write_86 : decode b_Template_write 86 = .ok (.if_icmp .ge 25, 3) := by decide +kernel
theorem d_Template_write_89 : decode b_Template_write 89 = .ok (.aload_n 0, 1) := by decide +kernel
theorem d_Template_write_90 : decode b_Template_write 90 = .ok (.aload_n 0, 1) := by decide +kernel
theorem d_Template_write_91 : decode b_Template_write 91 = .ok (.getfield 23, 3) := by decide +kernel
theorem d_Template_write_94 : decode b_Template_write 94 = .ok (.iload_n 3, 1) := by decide +kernel
theorem d_Template_write_95 : decode b_Template_write 95 = .ok (.iaload, 1) := by decide +kernel
theorem d_Template_write_96 : decode b_Template_write 96 = .ok (.invokevirtual 67, 3) := by decide +kernel
theorem d_Template_write_99 : decode b_Template_write 99 = .ok (.ifCond .ne 6, 3) := by decide +kernel
theorem d_Template_write_102 : decode b_Template_write 102 = .ok (.bipush (-48), 2) := by decide +kernel
theorem d_Template_write_104 : decode b_Template_write 104 = .ok (.ireturn, 1) := by decide +kernel
theorem d_Template_write_105 : decode b_Template_write 105 = .ok (.iinc 3 1, 3) := by decide +kernel
theorem d_Template_write_108 : decode b_Template_write 108 = .ok (.goto (-27), 3) := by decide +kernel
theorem d_Template_write_111 : decode b_Template_write 111 = .ok (.iconst 0, 1) := by decide +kernel
theorem d_Template_write_112 : decode b_Template_write 112 = .ok (.ireturn, 1) := by decide +kernel
theorem d_Template_write_113 : decode b_Template_write 113 = .ok (.aload_n 0, 1) := by decide +kernel
theorem d_Template_write_114 : decode b_Template_write 114 = .ok (.iconst 0, 1) := by decide +kernel
theorem d_Template_write_115 : decode b_Template_write 115 = .ok (.aload_n 0, 1) := by decide +kernel
theorem d_Template_write_116 : decode b_Template_write 116 = .ok (.getfield 27, 3) := by decide +kernel
theorem d_Template_write_119 : decode b_Template_write 119 = .ok (.iconst 0, 1) := by decide +kernel
theorem d_Template_write_120 : decode b_Template_write 120 = .ok (.invokevirtual 104, 3) := by decide +kernel
theorem d_Template_write_123 : decode b_Template_write 123 = .ok (.ireturn, 1) := by decide +kernel
abbrev b_Template_put : ByteArray := prog_17_method_5_code
abbrev y_Template_put : MethodName := ⟨"ReplacementWriterModel$Template", "put", "(I)Z"⟩
theorem d_Template_put_0 : decode b_Template_put 0 = .ok (.aload_n 0, 1) := by decide +kernel
theorem d_Template_put_1 : decode b_Template_put 1 = .ok (.getfield 50, 3) := by decide +kernel
theorem d_Template_put_4 : decode b_Template_put 4 = .ok (.getfield 78, 3) := by decide +kernel
theorem d_Template_put_7 : decode b_Template_put 7 = .ok (.ifCond .eq 10, 3) := by decide +kernel
theorem d_Template_put_10 : decode b_Template_put 10 = .ok (.iload_n 1, 1) := by decide +kernel
theorem d_Template_put_11 : decode b_Template_put 11 = .ok (.sipush 128, 3) := by decide +kernel
theorem d_Template_put_14 : decode b_Template_put 14 = .ok (.if_icmp .ge 9, 3) := by decide +kernel
theorem d_Template_put_17 : decode b_Template_put 17 = .ok (.aload_n 0, 1) := by decide +kernel
theorem d_Template_put_18 : decode b_Template_put 18 = .ok (.iload_n 1, 1) := by decide +kernel
theorem d_Template_put_19 : decode b_Template_put 19 = .ok (.invokevirtual 81, 3) := by decide +kernel
theorem d_Template_put_22 : decode b_Template_put 22 = .ok (.ireturn, 1) := by decide +kernel
theorem d_Template_put_23 : decode b_Template_put 23 = .ok (.iload_n 1, 1) := by decide +kernel
theorem d_Template_put_24 : decode b_Template_put 24 = .ok (.sipush 2048, 3) := by decide +kernel
theorem d_Template_put_27 : decode b_Template_put 27 = .ok (.if_icmp .ge 39, 3) := by decide +kernel
theorem d_Template_put_30 : decode b_Template_put 30 = .ok (.aload_n 0, 1) := by decide +kernel
theorem d_Template_put_31 : decode b_Template_put 31 = .ok (.sipush 192, 3) := by decide +kernel
theorem d_Template_put_34 : decode b_Template_put 34 = .ok (.iload_n 1, 1) := by decide +kernel
theorem d_Template_put_35 : decode b_Template_put 35 = .ok (.bipush 6, 2) := by decide +kernel
theorem d_Template_put_37 : decode b_Template_put 37 = .ok (.ishr, 1) := by decide +kernel
theorem d_Template_put_38 : decode b_Template_put 38 = .ok (.ior, 1) := by decide +kernel
theorem d_Template_put_39 : decode b_Template_put 39 = .ok (.invokevirtual 81, 3) := by decide +kernel
theorem d_Template_put_42 : decode b_Template_put 42 = .ok (.ifCond .eq 22, 3) := by decide +kernel
theorem d_Template_put_45 : decode b_Template_put 45 = .ok (.aload_n 0, 1) := by decide +kernel
theorem d_Template_put_46 : decode b_Template_put 46 = .ok (.sipush 128, 3) := by decide +kernel
theorem d_Template_put_49 : decode b_Template_put 49 = .ok (.iload_n 1, 1) := by decide +kernel
theorem d_Template_put_50 : decode b_Template_put 50 = .ok (.bipush 63, 2) := by decide +kernel
theorem d_Template_put_52 : decode b_Template_put 52 = .ok (.iand, 1) := by decide +kernel
theorem d_Template_put_53 : decode b_Template_put 53 = .ok (.ior, 1) := by decide +kernel
theorem d_Template_put_54 : decode b_Template_put 54 = .ok (.invokevirtual 81, 3) := by decide +kernel
theorem d_Template_put_57 : decode b_Template_put 57 = .ok (.ifCond .eq 7, 3) := by decide +kernel
theorem d_Template_put_60 : decode b_Template_put 60 = .ok (.iconst 1, 1) := by decide +kernel
theorem d_Template_put_61 : decode b_Template_put 61 = .ok (.goto 4, 3) := by decide +kernel
theorem d_Template_put_64 : decode b_Template_put 64 = .ok (.iconst 0, 1) := by decide +kernel
theorem d_Template_put_65 : decode b_Template_put 65 = .ok (.ireturn, 1) := by decide +kernel
theorem d_Template_put_66 : decode b_Template_put 66 = .ok (.iload_n 1, 1) := by decide +kernel
theorem d_Template_put_67 : decode b_Template_put 67 = .ok (.ldc 84, 2) := by decide +kernel
theorem d_Template_put_69 : decode b_Template_put 69 = .ok (.if_icmp .ge 57, 3) := by decide +kernel
theorem d_Template_put_72 : decode b_Template_put 72 = .ok (.aload_n 0, 1) := by decide +kernel
theorem d_Template_put_73 : decode b_Template_put 73 = .ok (.sipush 224, 3) := by decide +kernel
theorem d_Template_put_76 : decode b_Template_put 76 = .ok (.iload_n 1, 1) := by decide +kernel
theorem d_Template_put_77 : decode b_Template_put 77 = .ok (.bipush 12, 2) := by decide +kernel
theorem d_Template_put_79 : decode b_Template_put 79 = .ok (.ishr, 1) := by decide +kernel
theorem d_Template_put_80 : decode b_Template_put 80 = .ok (.ior, 1) := by decide +kernel
theorem d_Template_put_81 : decode b_Template_put 81 = .ok (.invokevirtual 81, 3) := by decide +kernel
theorem d_Template_put_84 : decode b_Template_put 84 = .ok (.ifCond .eq 40, 3) := by decide +kernel
theorem d_Template_put_87 : decode b_Template_put 87 = .ok (.aload_n 0, 1) := by decide +kernel
theorem d_Template_put_88 : decode b_Template_put 88 = .ok (.sipush 128, 3) := by decide +kernel
theorem d_Template_put_91 : decode b_Template_put 91 = .ok (.iload_n 1, 1) := by decide +kernel
theorem d_Template_put_92 : decode b_Template_put 92 = .ok (.bipush 6, 2) := by decide +kernel
theorem d_Template_put_94 : decode b_Template_put 94 = .ok (.ishr, 1) := by decide +kernel
theorem d_Template_put_95 : decode b_Template_put 95 = .ok (.bipush 63, 2) := by decide +kernel
theorem d_Template_put_97 : decode b_Template_put 97 = .ok (.iand, 1) := by decide +kernel
theorem d_Template_put_98 : decode b_Template_put 98 = .ok (.ior, 1) := by decide +kernel
theorem d_Template_put_99 : decode b_Template_put 99 = .ok (.invokevirtual 81, 3) := by decide +kernel
theorem d_Template_put_102 : decode b_Template_put 102 = .ok (.ifCond .eq 22, 3) := by decide +kernel
theorem d_Template_put_105 : decode b_Template_put 105 = .ok (.aload_n 0, 1) := by decide +kernel
theorem d_Template_put_106 : decode b_Template_put 106 = .ok (.sipush 128, 3) := by decide +kernel
theorem d_Template_put_109 : decode b_Template_put 109 = .ok (.iload_n 1, 1) := by decide +kernel
theorem d_Template_put_110 : decode b_Template_put 110 = .ok (.bipush 63, 2) := by decide +kernel
theorem d_Template_put_112 : decode b_Template_put 112 = .ok (.iand, 1) := by decide +kernel
theorem d_Template_put_113 : decode b_Template_put 113 = .ok (.ior, 1) := by decide +kernel
theorem d_Template_put_114 : decode b_Template_put 114 = .ok (.invokevirtual 81, 3) := by decide +kernel
theorem d_Template_put_117 : decode b_Template_put 117 = .ok (.ifCond .eq 7, 3) := by decide +kernel
theorem d_Template_put_120 : decode b_Template_put 120 = .ok (.iconst 1, 1) := by decide +kernel
theorem d_Template_put_121 : decode b_Template_put 121 = .ok (.goto 4, 3) := by decide +kernel
theorem d_Template_put_124 : decode b_Template_put 124 = .ok (.iconst 0, 1) := by decide +kernel
theorem d_Template_put_125 : decode b_Template_put 125 = .ok (.ireturn, 1) := by decide +kernel
theorem d_Template_put_126 : decode b_Template_put 126 = .ok (.aload_n 0, 1) := by decide +kernel
theorem d_Template_put_127 : decode b_Template_put 127 = .ok (.sipush 240, 3) := by decide +kernel
theorem d_Template_put_130 : decode b_Template_put 130 = .ok (.iload_n 1, 1) := by decide +kernel
theorem d_Template_put_131 : decode b_Template_put 131 = .ok (.bipush 18, 2) := by decide +kernel
theorem d_Template_put_133 : decode b_Template_put 133 = .ok (.ishr, 1) := by decide +kernel
theorem d_Template_put_134 : decode b_Template_put 134 = .ok (.ior, 1) := by decide +kernel
theorem d_Template_put_135 : decode b_Template_put 135 = .ok (.invokevirtual 81, 3) := by decide +kernel
theorem d_Template_put_138 : decode b_Template_put 138 = .ok (.ifCond .eq 58, 3) := by decide +kernel
theorem d_Template_put_141 : decode b_Template_put 141 = .ok (.aload_n 0, 1) := by decide +kernel
theorem d_Template_put_142 : decode b_Template_put 142 = .ok (.sipush 128, 3) := by decide +kernel
theorem d_Template_put_145 : decode b_Template_put 145 = .ok (.iload_n 1, 1) := by decide +kernel
theorem d_Template_put_146 : decode b_Template_put 146 = .ok (.bipush 12, 2) := by decide +kernel
theorem d_Template_put_148 : decode b_Template_put 148 = .ok (.ishr, 1) := by decide +kernel
theorem d_Template_put_149 : decode b_Template_put 149 = .ok (.bipush 63, 2) := by decide +kernel
theorem d_Template_put_151 : decode b_Template_put 151 = .ok (.iand, 1) := by decide +kernel
theorem d_Template_put_152 : decode b_Template_put 152 = .ok (.ior, 1) := by decide +kernel
theorem d_Template_put_153 : decode b_Template_put 153 = .ok (.invokevirtual 81, 3) := by decide +kernel
theorem d_Template_put_156 : decode b_Template_put 156 = .ok (.ifCond .eq 40, 3) := by decide +kernel
theorem d_Template_put_159 : decode b_Template_put 159 = .ok (.aload_n 0, 1) := by decide +kernel
theorem d_Template_put_160 : decode b_Template_put 160 = .ok (.sipush 128, 3) := by decide +kernel
theorem d_Template_put_163 : decode b_Template_put 163 = .ok (.iload_n 1, 1) := by decide +kernel
theorem d_Template_put_164 : decode b_Template_put 164 = .ok (.bipush 6, 2) := by decide +kernel
theorem d_Template_put_166 : decode b_Template_put 166 = .ok (.ishr, 1) := by decide +kernel
theorem d_Template_put_167 : decode b_Template_put 167 = .ok (.bipush 63, 2) := by decide +kernel
theorem d_Template_put_169 : decode b_Template_put 169 = .ok (.iand, 1) := by decide +kernel
theorem d_Template_put_170 : decode b_Template_put 170 = .ok (.ior, 1) := by decide +kernel
theorem d_Template_put_171 : decode b_Template_put 171 = .ok (.invokevirtual 81, 3) := by decide +kernel
theorem d_Template_put_174 : decode b_Template_put 174 = .ok (.ifCond .eq 22, 3) := by decide +kernel
theorem d_Template_put_177 : decode b_Template_put 177 = .ok (.aload_n 0, 1) := by decide +kernel
theorem d_Template_put_178 : decode b_Template_put 178 = .ok (.sipush 128, 3) := by decide +kernel
theorem d_Template_put_181 : decode b_Template_put 181 = .ok (.iload_n 1, 1) := by decide +kernel
theorem d_Template_put_182 : decode b_Template_put 182 = .ok (.bipush 63, 2) := by decide +kernel
theorem d_Template_put_184 : decode b_Template_put 184 = .ok (.iand, 1) := by decide +kernel
theorem d_Template_put_185 : decode b_Template_put 185 = .ok (.ior, 1) := by decide +kernel
theorem d_Template_put_186 : decode b_Template_put 186 = .ok (.invokevirtual 81, 3) := by decide +kernel
theorem d_Template_put_189 : decode b_Template_put 189 = .ok (.ifCond .eq 7, 3) := by decide +kernel
theorem d_Template_put_192 : decode b_Template_put 192 = .ok (.iconst 1, 1) := by decide +kernel
theorem d_Template_put_193 : decode b_Template_put 193 = .ok (.goto 4, 3) := by decide +kernel
theorem d_Template_put_196 : decode b_Template_put 196 = .ok (.iconst 0, 1) := by decide +kernel
theorem d_Template_put_197 : decode b_Template_put 197 = .ok (.ireturn, 1) := by decide +kernel
abbrev b_Template_bytes : ByteArray := prog_17_method_4_code
abbrev y_Template_bytes : MethodName := ⟨"ReplacementWriterModel$Template", "bytes", "(I)Z"⟩
theorem d_Template_bytes_0 : decode b_Template_bytes 0 = .ok (.aload_n 0, 1) := by decide +kernel
theorem d_Template_bytes_1 : decode b_Template_bytes 1 = .ok (.getfield 35, 3) := by decide +kernel
theorem d_Template_bytes_4 : decode b_Template_bytes 4 = .ok (.ldc 71, 2) := by decide +kernel
theorem d_Template_bytes_6 : decode b_Template_bytes 6 = .ok (.if_icmp .lt 5, 3) := by decide +kernel
theorem d_Template_bytes_9 : decode b_Template_bytes 9 = .ok (.iconst 0, 1) := by decide +kernel
theorem d_Template_bytes_10 : decode b_Template_bytes 10 = .ok (.ireturn, 1) := by decide +kernel
theorem d_Template_bytes_11 : decode b_Template_bytes 11 = .ok (.aload_n 0, 1) := by decide +kernel
theorem d_Template_bytes_12 : decode b_Template_bytes 12 = .ok (.getfield 35, 3) := by decide +kernel
theorem d_Template_bytes_15 : decode b_Template_bytes 15 = .ok (.aload_n 0, 1) := by decide +kernel
theorem d_Template_bytes_16 : decode b_Template_bytes 16 = .ok (.getfield 31, 3) := by decide +kernel
theorem d_Template_bytes_19 : decode b_Template_bytes 19 = .ok (.arraylength, 1) := by decide +kernel
theorem d_Template_bytes_20 : decode b_Template_bytes 20 = .ok (.if_icmp .ne 31, 3) := by decide +kernel
theorem d_Template_bytes_23 : decode b_Template_bytes 23 = .ok (.iconst 2, 1) := by decide +kernel
theorem d_Template_bytes_24 : decode b_Template_bytes 24 = .ok (.aload_n 0, 1) := by decide +kernel
theorem d_Template_bytes_25 : decode b_Template_bytes 25 = .ok (.getfield 35, 3) := by decide +kernel
theorem d_Template_bytes_28 : decode b_Template_bytes 28 = .ok (.imul, 1) := by decide +kernel
theorem d_Template_bytes_29 : decode b_Template_bytes 29 = .ok (.newarray .byte, 2) := by decide +kernel
theorem d_Template_bytes_31 : decode b_Template_bytes 31 = .ok (.astore_n 2, 1) := by decide +kernel
theorem d_Template_bytes_32 : decode b_Template_bytes 32 = .ok (.aload_n 0, 1) := by decide +kernel
theorem d_Template_bytes_33 : decode b_Template_bytes 33 = .ok (.getfield 31, 3) := by decide +kernel
theorem d_Template_bytes_36 : decode b_Template_bytes 36 = .ok (.iconst 0, 1) := by decide +kernel
theorem d_Template_bytes_37 : decode b_Template_bytes 37 = .ok (.aload_n 2, 1) := by decide +kernel
theorem d_Template_bytes_38 : decode b_Template_bytes 38 = .ok (.iconst 0, 1) := by decide +kernel
theorem d_Template_bytes_39 : decode b_Template_bytes 39 = .ok (.aload_n 0, 1) := by decide +kernel
theorem d_Template_bytes_40 : decode b_Template_bytes 40 = .ok (.getfield 35, 3) := by decide +kernel
theorem d_Template_bytes_43 : decode b_Template_bytes 43 = .ok (.invokestatic 72, 3) := by decide +kernel
theorem d_Template_bytes_46 : decode b_Template_bytes 46 = .ok (.aload_n 0, 1) := by decide +kernel
theorem d_Template_bytes_47 : decode b_Template_bytes 47 = .ok (.aload_n 2, 1) := by decide +kernel
theorem d_Template_bytes_48 : decode b_Template_bytes 48 = .ok (.putfield 31, 3) := by decide +kernel
theorem d_Template_bytes_51 : decode b_Template_bytes 51 = .ok (.aload_n 0, 1) := by decide +kernel
theorem d_Template_bytes_52 : decode b_Template_bytes 52 = .ok (.getfield 31, 3) := by decide +kernel
theorem d_Template_bytes_55 : decode b_Template_bytes 55 = .ok (.aload_n 0, 1) := by decide +kernel
theorem d_Template_bytes_56 : decode b_Template_bytes 56 = .ok (.dup, 1) := by decide +kernel
theorem d_Template_bytes_57 : decode b_Template_bytes 57 = .ok (.getfield 35, 3) := by decide +kernel
theorem d_Template_bytes_60 : decode b_Template_bytes 60 = .ok (.dup_x1, 1) := by decide +kernel
theorem d_Template_bytes_61 : decode b_Template_bytes 61 = .ok (.iconst 1, 1) := by decide +kernel
theorem d_Template_bytes_62 : decode b_Template_bytes 62 = .ok (.iadd, 1) := by decide +kernel
theorem d_Template_bytes_63 : decode b_Template_bytes 63 = .ok (.putfield 35, 3) := by decide +kernel
theorem d_Template_bytes_66 : decode b_Template_bytes 66 = .ok (.iload_n 1, 1) := by decide +kernel
theorem d_Template_bytes_67 : decode b_Template_bytes 67 = .ok (.i2b, 1) := by decide +kernel
theorem d_Template_bytes_68 : decode b_Template_bytes 68 = .ok (.bastore, 1) := by decide +kernel
theorem d_Template_bytes_69 : decode b_Template_bytes 69 = .ok (.iconst 1, 1) := by decide +kernel
theorem d_Template_bytes_70 : decode b_Template_bytes 70 = .ok (.ireturn, 1) := by decide +kernel
abbrev b_Template_part : ByteArray := prog_17_method_13_code
abbrev y_Template_part : MethodName := ⟨"ReplacementWriterModel$Template", "part", "(III)I"⟩
theorem d_Template_part_0 : decode b_Template_part 0 = .ok (.aload_n 0, 1) := by decide +kernel
theorem d_Template_part_1 : decode b_Template_part 1 = .ok (.iload_n 1, 1) := by decide +kernel
theorem d_Template_part_2 : decode b_Template_part 2 = .ok (.putfield 47, 3) := by decide +kernel
theorem d_Template_part_5 : decode b_Template_part 5 = .ok (.aload_n 0, 1) := by decide +kernel
theorem d_Template_part_6 : decode b_Template_part 6 = .ok (.getfield 47, 3) := by decide +kernel
theorem d_Template_part_9 : decode b_Template_part 9 = .ok (.iload_n 2, 1) := by decide +kernel
theorem d_Template_part_10 : decode b_Template_part 10 = .ok (.if_icmp .ge 93, 3) := by decide +kernel
theorem d_Template_part_13 : decode b_Template_part 13 = .ok (.aload_n 0, 1) := by decide +kernel
theorem d_Template_part_14 : decode b_Template_part 14 = .ok (.getfield 23, 3) := by decide +kernel
theorem d_Template_part_17 : decode b_Template_part 17 = .ok (.aload_n 0, 1) := by decide +kernel
theorem d_Template_part_18 : decode b_Template_part 18 = .ok (.getfield 47, 3) := by decide +kernel
theorem d_Template_part_21 : decode b_Template_part 21 = .ok (.iaload, 1) := by decide +kernel
theorem d_Template_part_22 : decode b_Template_part 22 = .ok (.istore 4, 2) := by decide +kernel
theorem d_Template_part_24 : decode b_Template_part 24 = .ok (.iconst 0, 1) := by decide +kernel
theorem d_Template_part_25 : decode b_Template_part 25 = .ok (.istore 5, 2) := by decide +kernel
theorem d_Template_part_27 : decode b_Template_part 27 = .ok (.iload 4, 2) := by decide +kernel
theorem d_Template_part_29 : decode b_Template_part 29 = .ok (.bipush 36, 2) := by decide +kernel
theorem d_Template_part_31 : decode b_Template_part 31 = .ok (.if_icmp .ne 14, 3) := by decide +kernel
theorem d_Template_part_34 : decode b_Template_part 34 = .ok (.aload_n 0, 1) := by decide +kernel
theorem d_Template_part_35 : decode b_Template_part 35 = .ok (.iload_n 2, 1) := by decide +kernel
theorem d_Template_part_36 : decode b_Template_part 36 = .ok (.iload_n 3, 1) := by decide +kernel
theorem d_Template_part_37 : decode b_Template_part 37 = .ok (.invokevirtual 108, 3) := by decide +kernel
theorem d_Template_part_40 : decode b_Template_part 40 = .ok (.istore 5, 2) := by decide +kernel
theorem d_Template_part_42 : decode b_Template_part 42 = .ok (.goto 50, 3) := by decide +kernel
theorem d_Template_part_45 : decode b_Template_part 45 = .ok (.iload 4, 2) := by decide +kernel
theorem d_Template_part_47 : decode b_Template_part 47 = .ok (.bipush 92, 2) := by decide +kernel
theorem d_Template_part_49 : decode b_Template_part 49 = .ok (.if_icmp .ne 20, 3) := by decide +kernel
theorem d_Template_part_52 : decode b_Template_part 52 = .ok (.aload_n 0, 1) := by decide +kernel
theorem d_Template_part_53 : decode b_Template_part 53 = .ok (.getfield 13, 3) := by decide +kernel
theorem d_Template_part_56 : decode b_Template_part 56 = .ok (.ifCond .eq 13, 3) := by decide +kernel
theorem d_Template_part_59 : decode b_Template_part 59 = .ok (.aload_n 0, 1) := by decide +kernel
theorem d_Template_part_60 : decode b_Template_part 60 = .ok (.iload_n 2, 1) := by decide +kernel
theorem d_Template_part_61 : decode b_Template_part 61 = .ok (.invokevirtual 111, 3) := by decide +kernel
theorem d_Template_part_64 : decode b_Template_part 64 = .ok (.istore 5, 2) := by decide +kernel
theorem d_Template_part_66 : decode b_Template_part 66 = .ok (.goto 26, 3) := by decide +kernel
theorem d_Template_part_69 : decode b_Template_part 69 = .ok (.aload_n 0, 1) := by decide +kernel
theorem d_Template_part_70 : decode b_Template_part 70 = .ok (.dup, 1) := by decide +kernel
theorem d_Template_part_71 : decode b_Template_part 71 = .ok (.getfield 47, 3) := by decide +kernel
theorem d_Template_part_74 : decode b_Template_part 74 = .ok (.iconst 1, 1) := by decide +kernel
theorem d_Template_part_75 : decode b_Template_part 75 = .ok (.iadd, 1) := by decide +kernel
theorem d_Template_part_76 : decode b_Template_part 76 = .ok (.putfield 47, 3) := by decide +kernel
theorem d_Template_part_79 : decode b_Template_part 79 = .ok (.aload_n 0, 1) := by decide +kernel
theorem d_Template_part_80 : decode b_Template_part 80 = .ok (.iload 4, 2) := by decide +kernel
theorem d_Template_part_82 : decode b_Template_part 82 = .ok (.invokevirtual 114, 3) := by decide +kernel
theorem d_Template_part_85 : decode b_Template_part 85 = .ok (.ifCond .ne 7, 3) := by decide +kernel
theorem d_Template_part_88 : decode b_Template_part 88 = .ok (.bipush (-48), 2) := by decide +kernel
theorem d_Template_part_90 : decode b_Template_part 90 = .ok (.istore 5, 2) := by decide +kernel
theorem d_Template_part_92 : decode b_Template_part 92 = .ok (.iload 5, 2) := by decide +kernel
theorem d_Template_part_94 : decode b_Template_part 94 = .ok (.ifCond .eq 6, 3) := by decide +kernel
theorem d_Template_part_97 : decode b_Template_part 97 = .ok (.iload 5, 2) := by decide +kernel
theorem d_Template_part_99 : decode b_Template_part 99 = .ok (.ireturn, 1) := by decide +kernel
theorem d_Template_part_100 : decode b_Template_part 100 = .ok (.goto (-95), 3) := by decide +kernel
theorem d_Template_part_103 : decode b_Template_part 103 = .ok (.iconst 0, 1) := by decide +kernel
theorem d_Template_part_104 : decode b_Template_part 104 = .ok (.ireturn, 1) := by decide +kernel
abbrev b_Template_dollar : ByteArray := prog_17_method_14_code
abbrev y_Template_dollar : MethodName := ⟨"ReplacementWriterModel$Template", "dollar", "(II)I"⟩
theorem d_Template_dollar_0 : decode b_Template_dollar 0 = .ok (.aload_n 0, 1) := by decide +kernel
theorem d_Template_dollar_1 : decode b_Template_dollar 1 = .ok (.getfield 47, 3) := by decide +kernel
theorem d_Template_dollar_4 : decode b_Template_dollar 4 = .ok (.istore_n 3, 1) := by decide +kernel
theorem d_Template_dollar_5 : decode b_Template_dollar 5 = .ok (.aload_n 0, 1) := by decide +kernel
theorem d_Template_dollar_6 : decode b_Template_dollar 6 = .ok (.dup, 1) := by decide +kernel
theorem d_Template_dollar_7 : decode b_Template_dollar 7 = .ok (.getfield 47, 3) := by decide +kernel
theorem d_Template_dollar_10 : decode b_Template_dollar 10 = .ok (.iconst 1, 1) := by decide +kernel
theorem d_Template_dollar_11 : decode b_Template_dollar 11 = .ok (.iadd, 1) := by decide +kernel
theorem d_Template_dollar_12 : decode b_Template_dollar 12 = .ok (.putfield 47, 3) := by decide +kernel
theorem d_Template_dollar_15 : decode b_Template_dollar 15 = .ok (.aload_n 0, 1) := by decide +kernel
theorem d_Template_dollar_16 : decode b_Template_dollar 16 = .ok (.aload_n 0, 1) := by decide +kernel
theorem d_Template_dollar_17 : decode b_Template_dollar 17 = .ok (.getfield 47, 3) := by decide +kernel
theorem d_Template_dollar_20 : decode b_Template_dollar 20 = .ok (.iload_n 1, 1) := by decide +kernel
theorem d_Template_dollar_21 : decode b_Template_dollar 21 = .ok (.invokevirtual 97, 3) := by decide +kernel
theorem d_Template_dollar_24 : decode b_Template_dollar 24 = .ok (.istore 4, 2) := by decide +kernel
theorem d_Template_dollar_26 : decode b_Template_dollar 26 = .ok (.iload 4, 2) := by decide +kernel
theorem d_Template_dollar_28 : decode b_Template_dollar 28 = .ok (.bipush 36, 2) := by decide +kernel
theorem d_Template_dollar_30 : decode b_Template_dollar 30 = .ok (.if_icmp .ne 29, 3) := by decide +kernel
theorem d_Template_dollar_33 : decode b_Template_dollar 33 = .ok (.aload_n 0, 1) := by decide +kernel
theorem d_Template_dollar_34 : decode b_Template_dollar 34 = .ok (.dup, 1) := by decide +kernel
theorem d_Template_dollar_35 : decode b_Template_dollar 35 = .ok (.getfield 47, 3) := by decide +kernel
theorem d_Template_dollar_38 : decode b_Template_dollar 38 = .ok (.iconst 1, 1) := by decide +kernel
theorem d_Template_dollar_39 : decode b_Template_dollar 39 = .ok (.iadd, 1) := by decide +kernel
theorem d_Template_dollar_40 : decode b_Template_dollar 40 = .ok (.putfield 47, 3) := by decide +kernel
theorem d_Template_dollar_43 : decode b_Template_dollar 43 = .ok (.aload_n 0, 1) := by decide +kernel
theorem d_Template_dollar_44 : decode b_Template_dollar 44 = .ok (.bipush 36, 2) := by decide +kernel
theorem d_Template_dollar_46 : decode b_Template_dollar 46 = .ok (.invokevirtual 114, 3) := by decide +kernel
theorem d_Template_dollar_49 : decode b_Template_dollar 49 = .ok (.ifCond .eq 7, 3) := by decide +kernel
theorem d_Template_dollar_52 : decode b_Template_dollar 52 = .ok (.iconst 0, 1) := by decide +kernel
theorem d_Template_dollar_53 : decode b_Template_dollar 53 = .ok (.goto 5, 3) := by decide +kernel
theorem d_Template_dollar_56 : decode b_Template_dollar 56 = .ok (.bipush (-48), 2) := by decide +kernel
theorem d_Template_dollar_58 : decode b_Template_dollar 58 = .ok (.ireturn, 1) := by decide +kernel
theorem d_Template_dollar_59 : decode b_Template_dollar 59 = .ok (.iload 4, 2) := by decide +kernel
theorem d_Template_dollar_61 : decode b_Template_dollar 61 = .ok (.bipush 123, 2) := by decide +kernel
theorem d_Template_dollar_63 : decode b_Template_dollar 63 = .ok (.if_icmp .ne 7, 3) := by decide +kernel
theorem d_Template_dollar_66 : decode b_Template_dollar 66 = .ok (.iconst 1, 1) := by decide +kernel
theorem d_Template_dollar_67 : decode b_Template_dollar 67 = .ok (.goto 4, 3) := by decide +kernel
theorem d_Template_dollar_70 : decode b_Template_dollar 70 = .ok (.iconst 0, 1) := by decide +kernel
theorem d_Template_dollar_71 : decode b_Template_dollar 71 = .ok (.istore 5, 2) := by decide +kernel
theorem d_Template_dollar_73 : decode b_Template_dollar 73 = .ok (.iload 5, 2) := by decide +kernel
theorem d_Template_dollar_75 : decode b_Template_dollar 75 = .ok (.ifCond .eq 13, 3) := by decide +kernel
theorem d_Template_dollar_78 : decode b_Template_dollar 78 = .ok (.aload_n 0, 1) := by decide +kernel
theorem d_Template_dollar_79 : decode b_Template_dollar 79 = .ok (.dup, 1) := by decide +kernel
theorem d_Template_dollar_80 : decode b_Template_dollar 80 = .ok (.getfield 47, 3) := by decide +kernel
theorem d_Template_dollar_83 : decode b_Template_dollar 83 = .ok (.iconst 1, 1) := by decide +kernel
theorem d_Template_dollar_84 : decode b_Template_dollar 84 = .ok (.iadd, 1) := by decide +kernel
theorem d_Template_dollar_85 : decode b_Template_dollar 85 = .ok (.putfield 47, 3) := by decide +kernel
theorem d_Template_dollar_88 : decode b_Template_dollar 88 = .ok (.aload_n 0, 1) := by decide +kernel
theorem d_Template_dollar_89 : decode b_Template_dollar 89 = .ok (.aload_n 0, 1) := by decide +kernel
theorem d_Template_dollar_90 : decode b_Template_dollar 90 = .ok (.getfield 47, 3) := by decide +kernel
theorem d_Template_dollar_93 : decode b_Template_dollar 93 = .ok (.iload_n 1, 1) := by decide +kernel
theorem d_Template_dollar_94 : decode b_Template_dollar 94 = .ok (.invokevirtual 97, 3) := by decide +kernel
theorem d_Template_dollar_97 : decode b_Template_dollar 97 = .ok (.istore 4, 2) := by decide +kernel
theorem d_Template_dollar_99 : decode b_Template_dollar 99 = .ok (.iload 4, 2) := by decide +kernel
theorem d_Template_dollar_101 : decode b_Template_dollar 101 = .ok (.bipush 42, 2) := by decide +kernel
theorem d_Template_dollar_103 : decode b_Template_dollar 103 = .ok (.if_icmp .ne 12, 3) := by decide +kernel
theorem d_Template_dollar_106 : decode b_Template_dollar 106 = .ok (.aload_n 0, 1) := by decide +kernel
theorem d_Template_dollar_107 : decode b_Template_dollar 107 = .ok (.iload_n 1, 1) := by decide +kernel
theorem d_Template_dollar_108 : decode b_Template_dollar 108 = .ok (.iload_n 3, 1) := by decide +kernel
theorem d_Template_dollar_109 : decode b_Template_dollar 109 = .ok (.iload 5, 2) := by decide +kernel
theorem d_Template_dollar_111 : decode b_Template_dollar 111 = .ok (.invokevirtual 117, 3) := by decide +kernel
theorem d_Template_dollar_114 : decode b_Template_dollar 114 = .ok (.ireturn, 1) := by decide +kernel
theorem d_Template_dollar_115 : decode b_Template_dollar 115 = .ok (.iload 4, 2) := by decide +kernel
theorem d_Template_dollar_117 : decode b_Template_dollar 117 = .ok (.invokestatic 88, 3) := by decide +kernel
theorem d_Template_dollar_120 : decode b_Template_dollar 120 = .ok (.ifCond .eq 100, 3) := by decide +kernel
theorem d_Template_dollar_123 : decode b_Template_dollar 123 = .ok (.iconst 0, 1) := by decide +kernel
theorem d_Template_dollar_124 : decode b_Template_dollar 124 = .ok (.istore 7, 2) := by decide +kernel
theorem d_Template_dollar_126 : decode b_Template_dollar 126 = .ok (.aload_n 0, 1) := by decide +kernel
theorem d_Template_dollar_127 : decode b_Template_dollar 127 = .ok (.aload_n 0, 1) := by decide +kernel
theorem d_Template_dollar_128 : decode b_Template_dollar 128 = .ok (.getfield 47, 3) := by decide +kernel
theorem d_Template_dollar_131 : decode b_Template_dollar 131 = .ok (.iload_n 1, 1) := by decide +kernel
theorem d_Template_dollar_132 : decode b_Template_dollar 132 = .ok (.invokevirtual 97, 3) := by decide +kernel
theorem d_Template_dollar_135 : decode b_Template_dollar 135 = .ok (.invokestatic 88, 3) := by decide +kernel
theorem d_Template_dollar_138 : decode b_Template_dollar 138 = .ok (.ifCond .eq 38, 3) := by decide +kernel
theorem d_Template_dollar_141 : decode b_Template_dollar 141 = .ok (.iload 7, 2) := by decide +kernel
theorem d_Template_dollar_143 : decode b_Template_dollar 143 = .ok (.bipush 10, 2) := by decide +kernel
theorem d_Template_dollar_145 : decode b_Template_dollar 145 = .ok (.imul, 1) := by decide +kernel
theorem d_Template_dollar_146 : decode b_Template_dollar 146 = .ok (.aload_n 0, 1) := by decide +kernel
theorem d_Template_dollar_147 : decode b_Template_dollar 147 = .ok (.getfield 23, 3) := by decide +kernel
theorem d_Template_dollar_150 : decode b_Template_dollar 150 = .ok (.aload_n 0, 1) := by decide +kernel
theorem d_Template_dollar_151 : decode b_Template_dollar 151 = .ok (.dup, 1) := by decide +kernel
theorem d_Template_dollar_152 : decode b_Template_dollar 152 = .ok (.getfield 47, 3) := by decide +kernel
theorem d_Template_dollar_155 : decode b_Template_dollar 155 = .ok (.dup_x1, 1) := by decide +kernel
theorem d_Template_dollar_156 : decode b_Template_dollar 156 = .ok (.iconst 1, 1) := by decide +kernel
theorem d_Template_dollar_157 : decode b_Template_dollar 157 = .ok (.iadd, 1) := by decide +kernel
theorem d_Template_dollar_158 : decode b_Template_dollar 158 = .ok (.putfield 47, 3) := by decide +kernel
theorem d_Template_dollar_161 : decode b_Template_dollar 161 = .ok (.iaload, 1) := by decide +kernel
theorem d_Template_dollar_162 : decode b_Template_dollar 162 = .ok (.iadd, 1) := by decide +kernel
theorem d_Template_dollar_163 : decode b_Template_dollar 163 = .ok (.bipush 48, 2) := by decide +kernel
theorem d_Template_dollar_165 : decode b_Template_dollar 165 = .ok (.isub, 1) := by decide +kernel
theorem d_Template_dollar_166 : decode b_Template_dollar 166 = .ok (.ldc 121, 2) := by decide +kernel
theorem d_Template_dollar_168 : decode b_Template_dollar 168 = .ok (.invokestatic 122, 3) := by decide +kernel
theorem d_Template_dollar_171 : decode b_Template_dollar 171 = .ok (.istore 7, 2) := by decide +kernel
theorem d_Template_dollar_173 : decode b_Template_dollar 173 = .ok (.goto (-47), 3) := by decide +kernel
theorem d_Template_dollar_176 : decode b_Template_dollar 176 = .ok (.iload 7, 2) := by decide +kernel
theorem d_Template_dollar_178 : decode b_Template_dollar 178 = .ok (.aload_n 0, 1) := by decide +kernel
theorem d_Template_dollar_179 : decode b_Template_dollar 179 = .ok (.getfield 7, 3) := by decide +kernel
theorem d_Template_dollar_182 : decode b_Template_dollar 182 = .ok (.invokeinterface 127 1, 5) := by decide +kernel
theorem d_Template_dollar_187 : decode b_Template_dollar 187 = .ok (.if_icmp .le 7, 3) := by decide +kernel
theorem d_Template_dollar_190 : decode b_Template_dollar 190 = .ok (.iconst (-1), 1) := by decide +kernel
theorem d_Template_dollar_191 : decode b_Template_dollar 191 = .ok (.goto 24, 3) := by decide +kernel
theorem d_Template_dollar_194 : decode b_Template_dollar 194 = .ok (.aload_n 0, 1) := by decide +kernel
theorem d_Template_dollar_195 : decode b_Template_dollar 195 = .ok (.getfield 7, 3) := by decide +kernel
theorem d_Template_dollar_198 : decode b_Template_dollar 198 = .ok (.iload 7, 2) := by decide +kernel
theorem d_Template_dollar_200 : decode b_Template_dollar 200 = .ok (.invokeinterface 132 2, 5) := by decide +kernel
theorem d_Template_dollar_205 : decode b_Template_dollar 205 = .ok (.ifCond .ge 8, 3) := by decide +kernel
theorem d_Template_dollar_208 : decode b_Template_dollar 208 = .ok (.bipush (-2), 2) := by decide +kernel
theorem d_Template_dollar_210 : decode b_Template_dollar 210 = .ok (.goto 5, 3) := by decide +kernel
theorem d_Template_dollar_213 : decode b_Template_dollar 213 = .ok (.iload 7, 2) := by decide +kernel
theorem d_Template_dollar_215 : decode b_Template_dollar 215 = .ok (.istore 6, 2) := by decide +kernel
theorem d_Template_dollar_217 : decode b_Template_dollar 217 = .ok (.goto 96, 3) := by decide +kernel
theorem d_Template_dollar_220 : decode b_Template_dollar 220 = .ok (.iload 4, 2) := by decide +kernel
theorem d_Template_dollar_222 : decode b_Template_dollar 222 = .ok (.invokestatic 85, 3) := by decide +kernel
theorem d_Template_dollar_225 : decode b_Template_dollar 225 = .ok (.ifCond .ne 10, 3) := by decide +kernel
theorem d_Template_dollar_228 : decode b_Template_dollar 228 = .ok (.iload 4, 2) := by decide +kernel
theorem d_Template_dollar_230 : decode b_Template_dollar 230 = .ok (.bipush 95, 2) := by decide +kernel
theorem d_Template_dollar_232 : decode b_Template_dollar 232 = .ok (.if_icmp .ne 73, 3) := by decide +kernel
theorem d_Template_dollar_235 : decode b_Template_dollar 235 = .ok (.aload_n 0, 1) := by decide +kernel
theorem d_Template_dollar_236 : decode b_Template_dollar 236 = .ok (.getfield 47, 3) := by decide +kernel
theorem d_Template_dollar_239 : decode b_Template_dollar 239 = .ok (.istore 7, 2) := by decide +kernel
theorem d_Template_dollar_241 : decode b_Template_dollar 241 = .ok (.aload_n 0, 1) := by decide +kernel
theorem d_Template_dollar_242 : decode b_Template_dollar 242 = .ok (.aload_n 0, 1) := by decide +kernel
theorem d_Template_dollar_243 : decode b_Template_dollar 243 = .ok (.getfield 47, 3) := by decide +kernel
theorem d_Template_dollar_246 : decode b_Template_dollar 246 = .ok (.iload_n 1, 1) := by decide +kernel
theorem d_Template_dollar_247 : decode b_Template_dollar 247 = .ok (.invokevirtual 97, 3) := by decide +kernel
theorem d_Template_dollar_250 : decode b_Template_dollar 250 = .ok (.invokestatic 134, 3) := by decide +kernel
theorem d_Template_dollar_253 : decode b_Template_dollar 253 = .ok (.ifCond .eq 28, 3) := by decide +kernel
theorem d_Template_dollar_256 : decode b_Template_dollar 256 = .ok (.aload_n 0, 1) := by decide +kernel
theorem d_Template_dollar_257 : decode b_Template_dollar 257 = .ok (.getfield 47, 3) := by decide +kernel
theorem d_Template_dollar_260 : decode b_Template_dollar 260 = .ok (.iload 7, 2) := by decide +kernel
theorem d_Template_dollar_262 : decode b_Template_dollar 262 = .ok (.isub, 1) := by decide +kernel
theorem d_Template_dollar_263 : decode b_Template_dollar 263 = .ok (.bipush 32, 2) := by decide +kernel
theorem d_Template_dollar_265 : decode b_Template_dollar 265 = .ok (.if_icmp .ge 16, 3) := by decide +kernel
theorem d_Template_dollar_268 : decode b_Template_dollar 268 = .ok (.aload_n 0, 1) := by decide +kernel
theorem d_Template_dollar_269 : decode b_Template_dollar 269 = .ok (.dup, 1) := by decide +kernel
theorem d_Template_dollar_270 : decode b_Template_dollar 270 = .ok (.getfield 47, 3) := by decide +kernel
theorem d_Template_dollar_273 : decode b_Template_dollar 273 = .ok (.iconst 1, 1) := by decide +kernel
theorem d_Template_dollar_274 : decode b_Template_dollar 274 = .ok (.iadd, 1) := by decide +kernel
theorem d_Template_dollar_275 : decode b_Template_dollar 275 = .ok (.putfield 47, 3) := by decide +kernel
theorem d_Template_dollar_278 : decode b_Template_dollar 278 = .ok (.goto (-37), 3) := by decide +kernel
theorem d_Template_dollar_281 : decode b_Template_dollar 281 = .ok (.aload_n 0, 1) := by decide +kernel
theorem d_Template_dollar_282 : decode b_Template_dollar 282 = .ok (.getfield 7, 3) := by decide +kernel
theorem d_Template_dollar_285 : decode b_Template_dollar 285 = .ok (.aload_n 0, 1) := by decide +kernel
theorem d_Template_dollar_286 : decode b_Template_dollar 286 = .ok (.getfield 23, 3) := by decide +kernel
theorem d_Template_dollar_289 : decode b_Template_dollar 289 = .ok (.iload 7, 2) := by decide +kernel
theorem d_Template_dollar_291 : decode b_Template_dollar 291 = .ok (.aload_n 0, 1) := by decide +kernel
theorem d_Template_dollar_292 : decode b_Template_dollar 292 = .ok (.getfield 47, 3) := by decide +kernel
theorem d_Template_dollar_295 : decode b_Template_dollar 295 = .ok (.invokeinterface 137 4, 5) := by decide +kernel
theorem d_Template_dollar_300 : decode b_Template_dollar 300 = .ok (.istore 6, 2) := by decide +kernel
theorem d_Template_dollar_302 : decode b_Template_dollar 302 = .ok (.goto 11, 3) := by decide +kernel
theorem d_Template_dollar_305 : decode b_Template_dollar 305 = .ok (.aload_n 0, 1) := by decide +kernel
theorem d_Template_dollar_306 : decode b_Template_dollar 306 = .ok (.bipush (-35), 2) := by decide +kernel
theorem d_Template_dollar_308 : decode b_Template_dollar 308 = .ok (.iload_n 3, 1) := by decide +kernel
theorem d_Template_dollar_309 : decode b_Template_dollar 309 = .ok (.invokevirtual 141, 3) := by decide +kernel
theorem d_Template_dollar_312 : decode b_Template_dollar 312 = .ok (.ireturn, 1) := by decide +kernel
theorem d_Template_dollar_313 : decode b_Template_dollar 313 = .ok (.iload 5, 2) := by decide +kernel
theorem d_Template_dollar_315 : decode b_Template_dollar 315 = .ok (.ifCond .ne 11, 3) := by decide +kernel
theorem d_Template_dollar_318 : decode b_Template_dollar 318 = .ok (.aload_n 0, 1) := by decide +kernel
theorem d_Template_dollar_319 : decode b_Template_dollar 319 = .ok (.iload 6, 2) := by decide +kernel
theorem d_Template_dollar_321 : decode b_Template_dollar 321 = .ok (.iload_n 3, 1) := by decide +kernel
theorem d_Template_dollar_322 : decode b_Template_dollar 322 = .ok (.invokevirtual 144, 3) := by decide +kernel
theorem d_Template_dollar_325 : decode b_Template_dollar 325 = .ok (.ireturn, 1) := by decide +kernel
theorem d_Template_dollar_326 : decode b_Template_dollar 326 = .ok (.aload_n 0, 1) := by decide +kernel
theorem d_Template_dollar_327 : decode b_Template_dollar 327 = .ok (.iload 6, 2) := by decide +kernel
theorem d_Template_dollar_329 : decode b_Template_dollar 329 = .ok (.iload_n 3, 1) := by decide +kernel
theorem d_Template_dollar_330 : decode b_Template_dollar 330 = .ok (.iload_n 1, 1) := by decide +kernel
theorem d_Template_dollar_331 : decode b_Template_dollar 331 = .ok (.iload_n 2, 1) := by decide +kernel
theorem d_Template_dollar_332 : decode b_Template_dollar 332 = .ok (.invokevirtual 147, 3) := by decide +kernel
theorem d_Template_dollar_335 : decode b_Template_dollar 335 = .ok (.ireturn, 1) := by decide +kernel
abbrev b_Template_see : ByteArray := prog_17_method_6_code
abbrev y_Template_see : MethodName := ⟨"ReplacementWriterModel$Template", "see", "(II)I"⟩
theorem d_Template_see_0 : decode b_Template_see 0 = .ok (.iload_n 1, 1) := by decide +kernel
theorem d_Template_see_1 : decode b_Template_see 1 = .ok (.iload_n 2, 1) := by decide +kernel
theorem d_Template_see_2 : decode b_Template_see 2 = .ok (.if_icmp .ge 12, 3) := by decide +kernel
theorem d_Template_see_5 : decode b_Template_see 5 = .ok (.aload_n 0, 1) := by decide +kernel
theorem d_Template_see_6 : decode b_Template_see 6 = .ok (.getfield 23, 3) := by decide +kernel
theorem d_Template_see_9 : decode b_Template_see 9 = .ok (.iload_n 1, 1) := by decide +kernel
theorem d_Template_see_10 : decode b_Template_see 10 = .ok (.iaload, 1) := by decide +kernel
theorem d_Template_see_11 : decode b_Template_see 11 = .ok (.goto 4, 3) := by decide +kernel
theorem d_Template_see_14 : decode b_Template_see 14 = .ok (.iconst (-1), 1) := by decide +kernel
theorem d_Template_see_15 : decode b_Template_see 15 = .ok (.ireturn, 1) := by decide +kernel
abbrev b_Template_one : ByteArray := prog_17_method_3_code
abbrev y_Template_one : MethodName := ⟨"ReplacementWriterModel$Template", "one", "(I)Z"⟩
theorem d_Template_one_0 : decode b_Template_one 0 = .ok (.aload_n 0, 1) := by decide +kernel
theorem d_Template_one_1 : decode b_Template_one 1 = .ok (.iload_n 1, 1) := by decide +kernel
theorem d_Template_one_2 : decode b_Template_one 2 = .ok (.aload_n 0, 1) := by decide +kernel
theorem d_Template_one_3 : decode b_Template_one 3 = .ok (.getfield 41, 3) := by decide +kernel
theorem d_Template_one_6 : decode b_Template_one 6 = .ok (.ifCond .eq 10, 3) := by decide +kernel
theorem d_Template_one_9 : decode b_Template_one 9 = .ok (.aload_n 0, 1) := by decide +kernel
theorem d_Template_one_10 : decode b_Template_one 10 = .ok (.getfield 41, 3) := by decide +kernel
theorem d_Template_one_13 : decode b_Template_one 13 = .ok (.goto 7, 3) := by decide +kernel
theorem d_Template_one_16 : decode b_Template_one 16 = .ok (.aload_n 0, 1) := by decide +kernel
theorem d_Template_one_17 : decode b_Template_one 17 = .ok (.getfield 38, 3) := by decide +kernel
theorem d_Template_one_20 : decode b_Template_one 20 = .ok (.invokevirtual 63, 3) := by decide +kernel
theorem d_Template_one_23 : decode b_Template_one 23 = .ok (.istore_n 2, 1) := by decide +kernel
theorem d_Template_one_24 : decode b_Template_one 24 = .ok (.aload_n 0, 1) := by decide +kernel
theorem d_Template_one_25 : decode b_Template_one 25 = .ok (.iconst 0, 1) := by decide +kernel
theorem d_Template_one_26 : decode b_Template_one 26 = .ok (.putfield 41, 3) := by decide +kernel
theorem d_Template_one_29 : decode b_Template_one 29 = .ok (.aload_n 0, 1) := by decide +kernel
theorem d_Template_one_30 : decode b_Template_one 30 = .ok (.iload_n 2, 1) := by decide +kernel
theorem d_Template_one_31 : decode b_Template_one 31 = .ok (.invokevirtual 67, 3) := by decide +kernel
theorem d_Template_one_34 : decode b_Template_one 34 = .ok (.ireturn, 1) := by decide +kernel
abbrev b_Template_cased : ByteArray := prog_17_method_2_code
abbrev y_Template_cased : MethodName := ⟨"ReplacementWriterModel$Template", "cased", "(II)I"⟩
theorem d_Template_cased_0 : decode b_Template_cased 0 = .ok (.iload_n 2, 1) := by decide +kernel
theorem d_Template_cased_1 : decode b_Template_cased 1 = .ok (.iconst 1, 1) := by decide +kernel
theorem d_Template_cased_2 : decode b_Template_cased 2 = .ok (.if_icmp .ne 14, 3) := by decide +kernel
theorem d_Template_cased_5 : decode b_Template_cased 5 = .ok (.aload_n 0, 1) := by decide +kernel
theorem d_Template_cased_6 : decode b_Template_cased 6 = .ok (.getfield 50, 3) := by decide +kernel
theorem d_Template_cased_9 : decode b_Template_cased 9 = .ok (.iload_n 1, 1) := by decide +kernel
theorem d_Template_cased_10 : decode b_Template_cased 10 = .ok (.invokevirtual 54, 3) := by decide +kernel
theorem d_Template_cased_13 : decode b_Template_cased 13 = .ok (.goto 20, 3) := by decide +kernel
theorem d_Template_cased_16 : decode b_Template_cased 16 = .ok (.iload_n 2, 1) := by decide +kernel
theorem d_Template_cased_17 : decode b_Template_cased 17 = .ok (.iconst 2, 1) := by decide +kernel
theorem d_Template_cased_18 : decode b_Template_cased 18 = .ok (.if_icmp .ne 14, 3) := by decide +kernel
theorem d_Template_cased_21 : decode b_Template_cased 21 = .ok (.aload_n 0, 1) := by decide +kernel
theorem d_Template_cased_22 : decode b_Template_cased 22 = .ok (.getfield 50, 3) := by decide +kernel
theorem d_Template_cased_25 : decode b_Template_cased 25 = .ok (.iload_n 1, 1) := by decide +kernel
theorem d_Template_cased_26 : decode b_Template_cased 26 = .ok (.invokevirtual 60, 3) := by decide +kernel
theorem d_Template_cased_29 : decode b_Template_cased 29 = .ok (.goto 4, 3) := by decide +kernel
theorem d_Template_cased_32 : decode b_Template_cased 32 = .ok (.iload_n 1, 1) := by decide +kernel
theorem d_Template_cased_33 : decode b_Template_cased 33 = .ok (.ireturn, 1) := by decide +kernel
abbrev b_Template_marked : ByteArray := prog_17_method_15_code
abbrev y_Template_marked : MethodName := ⟨"ReplacementWriterModel$Template", "marked", "(IIZ)I"⟩
theorem d_Template_marked_0 : decode b_Template_marked 0 = .ok (.aload_n 0, 1) := by decide +kernel
theorem d_Template_marked_1 : decode b_Template_marked 1 = .ok (.aload_n 0, 1) := by decide +kernel
theorem d_Template_marked_2 : decode b_Template_marked 2 = .ok (.getfield 47, 3) := by decide +kernel
theorem d_Template_marked_5 : decode b_Template_marked 5 = .ok (.iload_n 1, 1) := by decide +kernel
theorem d_Template_marked_6 : decode b_Template_marked 6 = .ok (.ldc 151, 2) := by decide +kernel
theorem d_Template_marked_8 : decode b_Template_marked 8 = .ok (.invokevirtual 153, 3) := by decide +kernel
theorem d_Template_marked_11 : decode b_Template_marked 11 = .ok (.ifCond .ne 11, 3) := by decide +kernel
theorem d_Template_marked_14 : decode b_Template_marked 14 = .ok (.aload_n 0, 1) := by decide +kernel
theorem d_Template_marked_15 : decode b_Template_marked 15 = .ok (.bipush (-35), 2) := by decide +kernel
theorem d_Template_marked_17 : decode b_Template_marked 17 = .ok (.iload_n 2, 1) := by decide +kernel
theorem d_Template_marked_18 : decode b_Template_marked 18 = .ok (.invokevirtual 141, 3) := by decide +kernel
theorem d_Template_marked_21 : decode b_Template_marked 21 = .ok (.ireturn, 1) := by decide +kernel
theorem d_Template_marked_22 : decode b_Template_marked 22 = .ok (.aload_n 0, 1) := by decide +kernel
theorem d_Template_marked_23 : decode b_Template_marked 23 = .ok (.dup, 1) := by decide +kernel
theorem d_Template_marked_24 : decode b_Template_marked 24 = .ok (.getfield 47, 3) := by decide +kernel
theorem d_Template_marked_27 : decode b_Template_marked 27 = .ok (.iconst 5, 1) := by decide +kernel
theorem d_Template_marked_28 : decode b_Template_marked 28 = .ok (.iadd, 1) := by decide +kernel
theorem d_Template_marked_29 : decode b_Template_marked 29 = .ok (.putfield 47, 3) := by decide +kernel
theorem d_Template_marked_32 : decode b_Template_marked 32 = .ok (.iload_n 3, 1) := by decide +kernel
theorem d_Template_marked_33 : decode b_Template_marked 33 = .ok (.ifCond .eq 35, 3) := by decide +kernel
theorem d_Template_marked_36 : decode b_Template_marked 36 = .ok (.aload_n 0, 1) := by decide +kernel
theorem d_Template_marked_37 : decode b_Template_marked 37 = .ok (.aload_n 0, 1) := by decide +kernel
theorem d_Template_marked_38 : decode b_Template_marked 38 = .ok (.getfield 47, 3) := by decide +kernel
theorem d_Template_marked_41 : decode b_Template_marked 41 = .ok (.iload_n 1, 1) := by decide +kernel
theorem d_Template_marked_42 : decode b_Template_marked 42 = .ok (.invokevirtual 97, 3) := by decide +kernel
theorem d_Template_marked_45 : decode b_Template_marked 45 = .ok (.bipush 125, 2) := by decide +kernel
theorem d_Template_marked_47 : decode b_Template_marked 47 = .ok (.if_icmp .eq 11, 3) := by decide +kernel
theorem d_Template_marked_50 : decode b_Template_marked 50 = .ok (.aload_n 0, 1) := by decide +kernel
theorem d_Template_marked_51 : decode b_Template_marked 51 = .ok (.bipush (-58), 2) := by decide +kernel
theorem d_Template_marked_53 : decode b_Template_marked 53 = .ok (.iload_n 2, 1) := by decide +kernel
theorem d_Template_marked_54 : decode b_Template_marked 54 = .ok (.invokevirtual 141, 3) := by decide +kernel
theorem d_Template_marked_57 : decode b_Template_marked 57 = .ok (.ireturn, 1) := by decide +kernel
theorem d_Template_marked_58 : decode b_Template_marked 58 = .ok (.aload_n 0, 1) := by decide +kernel
theorem d_Template_marked_59 : decode b_Template_marked 59 = .ok (.dup, 1) := by decide +kernel
theorem d_Template_marked_60 : decode b_Template_marked 60 = .ok (.getfield 47, 3) := by decide +kernel
theorem d_Template_marked_63 : decode b_Template_marked 63 = .ok (.iconst 1, 1) := by decide +kernel
theorem d_Template_marked_64 : decode b_Template_marked 64 = .ok (.iadd, 1) := by decide +kernel
theorem d_Template_marked_65 : decode b_Template_marked 65 = .ok (.putfield 47, 3) := by decide +kernel
theorem d_Template_marked_68 : decode b_Template_marked 68 = .ok (.iconst 0, 1) := by decide +kernel
theorem d_Template_marked_69 : decode b_Template_marked 69 = .ok (.istore 4, 2) := by decide +kernel
theorem d_Template_marked_71 : decode b_Template_marked 71 = .ok (.iload 4, 2) := by decide +kernel
theorem d_Template_marked_73 : decode b_Template_marked 73 = .ok (.aload_n 0, 1) := by decide +kernel
theorem d_Template_marked_74 : decode b_Template_marked 74 = .ok (.getfield 7, 3) := by decide +kernel
theorem d_Template_marked_77 : decode b_Template_marked 77 = .ok (.invokeinterface 157 1, 5) := by decide +kernel
theorem d_Template_marked_82 : decode b_Template_marked 82 = .ok (.if_icmp .ge 30, 3) := by decide +kernel
theorem d_Template_marked_85 : decode b_Template_marked 85 = .ok (.aload_n 0, 1) := by decide +kernel
theorem d_Template_marked_86 : decode b_Template_marked 86 = .ok (.aload_n 0, 1) := by decide +kernel
theorem d_Template_marked_87 : decode b_Template_marked 87 = .ok (.getfield 7, 3) := by decide +kernel
theorem d_Template_marked_90 : decode b_Template_marked 90 = .ok (.iload 4, 2) := by decide +kernel
theorem d_Template_marked_92 : decode b_Template_marked 92 = .ok (.invokeinterface 160 2, 5) := by decide +kernel
theorem d_Template_marked_97 : decode b_Template_marked 97 = .ok (.invokevirtual 114, 3) := by decide +kernel
theorem d_Template_marked_100 : decode b_Template_marked 100 = .ok (.ifCond .ne 6, 3) := by decide +kernel
theorem d_Template_marked_103 : decode b_Template_marked 103 = .ok (.bipush (-48), 2) := by decide +kernel
theorem d_Template_marked_105 : decode b_Template_marked 105 = .ok (.ireturn, 1) := by decide +kernel
theorem d_Template_marked_106 : decode b_Template_marked 106 = .ok (.iinc 4 1, 3) := by decide +kernel
theorem d_Template_marked_109 : decode b_Template_marked 109 = .ok (.goto (-38), 3) := by decide +kernel
theorem d_Template_marked_112 : decode b_Template_marked 112 = .ok (.iconst 0, 1) := by decide +kernel
theorem d_Template_marked_113 : decode b_Template_marked 113 = .ok (.ireturn, 1) := by decide +kernel
abbrev b_Template_comes : ByteArray := prog_17_method_10_code
abbrev y_Template_comes : MethodName := ⟨"ReplacementWriterModel$Template", "comes", "(IILjava/lang/String;)Z"⟩
theorem d_Template_comes_0 : decode b_Template_comes 0 = .ok (.iconst 0, 1) := by decide +kernel
theorem d_Template_comes_1 : decode b_Template_comes 1 = .ok (.istore 4, 2) := by decide +kernel
theorem d_Template_comes_3 : decode b_Template_comes 3 = .ok (.iload 4, 2) := by decide +kernel
theorem d_Template_comes_5 : decode b_Template_comes 5 = .ok (.aload_n 3, 1) := by decide +kernel
theorem d_Template_comes_6 : decode b_Template_comes 6 = .ok (.invokevirtual 91, 3) := by decide +kernel
theorem d_Template_comes_9 : decode b_Template_comes 9 = .ok (.if_icmp .ge 29, 3) := by decide +kernel
theorem d_Template_comes_12 : decode b_Template_comes 12 = .ok (.aload_n 0, 1) := by decide +kernel
theorem d_Template_comes_13 : decode b_Template_comes 13 = .ok (.iload_n 1, 1) := by decide +kernel
theorem d_Template_comes_14 : decode b_Template_comes 14 = .ok (.iload 4, 2) := by decide +kernel
theorem d_Template_comes_16 : decode b_Template_comes 16 = .ok (.iadd, 1) := by decide +kernel
theorem d_Template_comes_17 : decode b_Template_comes 17 = .ok (.iload_n 2, 1) := by decide +kernel
theorem d_Template_comes_18 : decode b_Template_comes 18 = .ok (.invokevirtual 97, 3) := by decide +kernel
theorem d_Template_comes_21 : decode b_Template_comes 21 = .ok (.aload_n 3, 1) := by decide +kernel
theorem d_Template_comes_22 : decode b_Template_comes 22 = .ok (.iload 4, 2) := by decide +kernel
theorem d_Template_comes_24 : decode b_Template_comes 24 = .ok (.invokevirtual 100, 3) := by decide +kernel
theorem d_Template_comes_27 : decode b_Template_comes 27 = .ok (.if_icmp .eq 5, 3) := by decide +kernel
theorem d_Template_comes_30 : decode b_Template_comes 30 = .ok (.iconst 0, 1) := by decide +kernel
theorem d_Template_comes_31 : decode b_Template_comes 31 = .ok (.ireturn, 1) := by decide +kernel
theorem d_Template_comes_32 : decode b_Template_comes 32 = .ok (.iinc 4 1, 3) := by decide +kernel
theorem d_Template_comes_35 : decode b_Template_comes 35 = .ok (.goto (-32), 3) := by decide +kernel
theorem d_Template_comes_38 : decode b_Template_comes 38 = .ok (.iconst 1, 1) := by decide +kernel
theorem d_Template_comes_39 : decode b_Template_comes 39 = .ok (.ireturn, 1) := by decide +kernel
abbrev b_Template_fault : ByteArray := prog_17_method_11_code
abbrev y_Template_fault : MethodName := ⟨"ReplacementWriterModel$Template", "fault", "(II)I"⟩
theorem d_Template_fault_0 : decode b_Template_fault 0 = .ok (.aload_n 0, 1) := by decide +kernel
theorem d_Template_fault_1 : decode b_Template_fault 1 = .ok (.iload_n 2, 1) := by decide +kernel
theorem d_Template_fault_2 : decode b_Template_fault 2 = .ok (.putfield 44, 3) := by decide +kernel
theorem d_Template_fault_5 : decode b_Template_fault 5 = .ok (.iload_n 1, 1) := by decide +kernel
theorem d_Template_fault_6 : decode b_Template_fault 6 = .ok (.ireturn, 1) := by decide +kernel
abbrev b_Template_plain : ByteArray := prog_17_method_16_code
abbrev y_Template_plain : MethodName := ⟨"ReplacementWriterModel$Template", "plain", "(II)I"⟩
theorem d_Template_plain_0 : decode b_Template_plain 0 = .ok (.iload_n 1, 1) := by decide +kernel
theorem d_Template_plain_1 : decode b_Template_plain 1 = .ok (.iconst (-1), 1) := by decide +kernel
theorem d_Template_plain_2 : decode b_Template_plain 2 = .ok (.if_icmp .ne 18, 3) := by decide +kernel
theorem d_Template_plain_5 : decode b_Template_plain 5 = .ok (.aload_n 0, 1) := by decide +kernel
theorem d_Template_plain_6 : decode b_Template_plain 6 = .ok (.getfield 20, 3) := by decide +kernel
theorem d_Template_plain_9 : decode b_Template_plain 9 = .ok (.ifCond .ne 11, 3) := by decide +kernel
theorem d_Template_plain_12 : decode b_Template_plain 12 = .ok (.aload_n 0, 1) := by decide +kernel
theorem d_Template_plain_13 : decode b_Template_plain 13 = .ok (.bipush (-49), 2) := by decide +kernel
theorem d_Template_plain_15 : decode b_Template_plain 15 = .ok (.iload_n 2, 1) := by decide +kernel
theorem d_Template_plain_16 : decode b_Template_plain 16 = .ok (.invokevirtual 141, 3) := by decide +kernel
theorem d_Template_plain_19 : decode b_Template_plain 19 = .ok (.ireturn, 1) := by decide +kernel
theorem d_Template_plain_20 : decode b_Template_plain 20 = .ok (.iload_n 1, 1) := by decide +kernel
theorem d_Template_plain_21 : decode b_Template_plain 21 = .ok (.ifCond .ge 22, 3) := by decide +kernel
theorem d_Template_plain_24 : decode b_Template_plain 24 = .ok (.aload_n 0, 1) := by decide +kernel
theorem d_Template_plain_25 : decode b_Template_plain 25 = .ok (.getfield 17, 3) := by decide +kernel
theorem d_Template_plain_28 : decode b_Template_plain 28 = .ok (.ifCond .eq 7, 3) := by decide +kernel
theorem d_Template_plain_31 : decode b_Template_plain 31 = .ok (.iconst 0, 1) := by decide +kernel
theorem d_Template_plain_32 : decode b_Template_plain 32 = .ok (.goto 10, 3) := by decide +kernel
theorem d_Template_plain_35 : decode b_Template_plain 35 = .ok (.aload_n 0, 1) := by decide +kernel
theorem d_Template_plain_36 : decode b_Template_plain 36 = .ok (.bipush (-55), 2) := by decide +kernel
theorem d_Template_plain_38 : decode b_Template_plain 38 = .ok (.iload_n 2, 1) := by decide +kernel
theorem d_Template_plain_39 : decode b_Template_plain 39 = .ok (.invokevirtual 141, 3) := by decide +kernel
theorem d_Template_plain_42 : decode b_Template_plain 42 = .ok (.ireturn, 1) := by decide +kernel
theorem d_Template_plain_43 : decode b_Template_plain 43 = .ok (.iconst 0, 1) := by decide +kernel
theorem d_Template_plain_44 : decode b_Template_plain 44 = .ok (.istore_n 3, 1) := by decide +kernel
theorem d_Template_plain_45 : decode b_Template_plain 45 = .ok (.iload_n 3, 1) := by decide +kernel
theorem d_Template_plain_46 : decode b_Template_plain 46 = .ok (.aload_n 0, 1) := by decide +kernel
theorem d_Template_plain_47 : decode b_Template_plain 47 = .ok (.getfield 7, 3) := by decide +kernel
theorem d_Template_plain_50 : decode b_Template_plain 50 = .ok (.iload_n 1, 1) := by decide +kernel
theorem d_Template_plain_51 : decode b_Template_plain 51 = .ok (.invokeinterface 132 2, 5) := by decide +kernel
theorem d_Template_plain_56 : decode b_Template_plain 56 = .ok (.if_icmp .ge 30, 3) := by decide +kernel
theorem d_Template_plain_59 : decode b_Template_plain 59 = .ok (.aload_n 0, 1) := by decide +kernel
theorem d_Template_plain_60 : decode b_Template_plain 60 = .ok (.aload_n 0, 1) := by decide +kernel
theorem d_Template_plain_61 : decode b_Template_plain 61 = .ok (.getfield 7, 3) := by decide +kernel
theorem d_Template_plain_64 : decode b_Template_plain 64 = .ok (.iload_n 1, 1) := by decide +kernel
theorem d_Template_plain_65 : decode b_Template_plain 65 = .ok (.iload_n 3, 1) := by decide +kernel
theorem d_Template_plain_66 : decode b_Template_plain 66 = .ok (.invokeinterface 163 3, 5) := by decide +kernel
theorem d_Template_plain_71 : decode b_Template_plain 71 = .ok (.invokevirtual 114, 3) := by decide +kernel
theorem d_Template_plain_74 : decode b_Template_plain 74 = .ok (.ifCond .ne 6, 3) := by decide +kernel
theorem d_Template_plain_77 : decode b_Template_plain 77 = .ok (.bipush (-48), 2) := by decide +kernel
theorem d_Template_plain_79 : decode b_Template_plain 79 = .ok (.ireturn, 1) := by decide +kernel
theorem d_Template_plain_80 : decode b_Template_plain 80 = .ok (.iinc 3 1, 3) := by decide +kernel
theorem d_Template_plain_83 : decode b_Template_plain 83 = .ok (.goto (-38), 3) := by decide +kernel
theorem d_Template_plain_86 : decode b_Template_plain 86 = .ok (.iconst 0, 1) := by decide +kernel
theorem d_Template_plain_87 : decode b_Template_plain 87 = .ok (.ireturn, 1) := by decide +kernel
abbrev b_Template_braced : ByteArray := prog_17_method_17_code
abbrev y_Template_braced : MethodName := ⟨"ReplacementWriterModel$Template", "braced", "(IIII)I"⟩
theorem d_Template_braced_0 : decode b_Template_braced 0 = .ok (.aload_n 0, 1) := by decide +kernel
theorem d_Template_braced_1 : decode b_Template_braced 1 = .ok (.aload_n 0, 1) := by decide +kernel
theorem d_Template_braced_2 : decode b_Template_braced 2 = .ok (.getfield 47, 3) := by decide +kernel
theorem d_Template_braced_5 : decode b_Template_braced 5 = .ok (.iload_n 3, 1) := by decide +kernel
theorem d_Template_braced_6 : decode b_Template_braced 6 = .ok (.invokevirtual 97, 3) := by decide +kernel
theorem d_Template_braced_9 : decode b_Template_braced 9 = .ok (.istore 5, 2) := by decide +kernel
theorem d_Template_braced_11 : decode b_Template_braced 11 = .ok (.iload 5, 2) := by decide +kernel
theorem d_Template_braced_13 : decode b_Template_braced 13 = .ok (.bipush 125, 2) := by decide +kernel
theorem d_Template_braced_15 : decode b_Template_braced 15 = .ok (.if_icmp .ne 20, 3) := by decide +kernel
theorem d_Template_braced_18 : decode b_Template_braced 18 = .ok (.aload_n 0, 1) := by decide +kernel
theorem d_Template_braced_19 : decode b_Template_braced 19 = .ok (.dup, 1) := by decide +kernel
theorem d_Template_braced_20 : decode b_Template_braced 20 = .ok (.getfield 47, 3) := by decide +kernel
theorem d_Template_braced_23 : decode b_Template_braced 23 = .ok (.iconst 1, 1) := by decide +kernel
theorem d_Template_braced_24 : decode b_Template_braced 24 = .ok (.iadd, 1) := by decide +kernel
theorem d_Template_braced_25 : decode b_Template_braced 25 = .ok (.putfield 47, 3) := by decide +kernel
theorem d_Template_braced_28 : decode b_Template_braced 28 = .ok (.aload_n 0, 1) := by decide +kernel
theorem d_Template_braced_29 : decode b_Template_braced 29 = .ok (.iload_n 1, 1) := by decide +kernel
theorem d_Template_braced_30 : decode b_Template_braced 30 = .ok (.iload_n 2, 1) := by decide +kernel
theorem d_Template_braced_31 : decode b_Template_braced 31 = .ok (.invokevirtual 144, 3) := by decide +kernel
theorem d_Template_braced_34 : decode b_Template_braced 34 = .ok (.ireturn, 1) := by decide +kernel
theorem d_Template_braced_35 : decode b_Template_braced 35 = .ok (.aload_n 0, 1) := by decide +kernel
theorem d_Template_braced_36 : decode b_Template_braced 36 = .ok (.aload_n 0, 1) := by decide +kernel
theorem d_Template_braced_37 : decode b_Template_braced 37 = .ok (.getfield 47, 3) := by decide +kernel
theorem d_Template_braced_40 : decode b_Template_braced 40 = .ok (.iload_n 3, 1) := by decide +kernel
theorem d_Template_braced_41 : decode b_Template_braced 41 = .ok (.ldc 166, 2) := by decide +kernel
theorem d_Template_braced_43 : decode b_Template_braced 43 = .ok (.invokevirtual 153, 3) := by decide +kernel
theorem d_Template_braced_46 : decode b_Template_braced 46 = .ok (.istore 6, 2) := by decide +kernel
theorem d_Template_braced_48 : decode b_Template_braced 48 = .ok (.aload_n 0, 1) := by decide +kernel
theorem d_Template_braced_49 : decode b_Template_braced 49 = .ok (.getfield 13, 3) := by decide +kernel
theorem d_Template_braced_52 : decode b_Template_braced 52 = .ok (.ifCond .eq 22, 3) := by decide +kernel
theorem d_Template_braced_55 : decode b_Template_braced 55 = .ok (.iload 6, 2) := by decide +kernel
theorem d_Template_braced_57 : decode b_Template_braced 57 = .ok (.ifCond .ne 25, 3) := by decide +kernel
theorem d_Template_braced_60 : decode b_Template_braced 60 = .ok (.aload_n 0, 1) := by decide +kernel
theorem d_Template_braced_61 : decode b_Template_braced 61 = .ok (.aload_n 0, 1) := by decide +kernel
theorem d_Template_braced_62 : decode b_Template_braced 62 = .ok (.getfield 47, 3) := by decide +kernel
theorem d_Template_braced_65 : decode b_Template_braced 65 = .ok (.iload_n 3, 1) := by decide +kernel
theorem d_Template_braced_66 : decode b_Template_braced 66 = .ok (.ldc 168, 2) := by decide +kernel
theorem d_Template_braced_68 : decode b_Template_braced 68 = .ok (.invokevirtual 153, 3) := by decide +kernel
theorem d_Template_braced_71 : decode b_Template_braced 71 = .ok (.ifCond .ne 11, 3) := by decide +kernel
theorem d_Template_braced_74 : decode b_Template_braced 74 = .ok (.aload_n 0, 1) := by decide +kernel
theorem d_Template_braced_75 : decode b_Template_braced 75 = .ok (.bipush (-58), 2) := by decide +kernel
theorem d_Template_braced_77 : decode b_Template_braced 77 = .ok (.iload_n 2, 1) := by decide +kernel
theorem d_Template_braced_78 : decode b_Template_braced 78 = .ok (.invokevirtual 141, 3) := by decide +kernel
theorem d_Template_braced_81 : decode b_Template_braced 81 = .ok (.ireturn, 1) := by decide +kernel
theorem d_Template_braced_82 : decode b_Template_braced 82 = .ok (.aload_n 0, 1) := by decide +kernel
theorem d_Template_braced_83 : decode b_Template_braced 83 = .ok (.dup, 1) := by decide +kernel
theorem d_Template_braced_84 : decode b_Template_braced 84 = .ok (.getfield 47, 3) := by decide +kernel
theorem d_Template_braced_87 : decode b_Template_braced 87 = .ok (.iconst 2, 1) := by decide +kernel
theorem d_Template_braced_88 : decode b_Template_braced 88 = .ok (.iadd, 1) := by decide +kernel
theorem d_Template_braced_89 : decode b_Template_braced 89 = .ok (.putfield 47, 3) := by decide +kernel
theorem d_Template_braced_92 : decode b_Template_braced 92 = .ok (.aload_n 0, 1) := by decide +kernel
theorem d_Template_braced_93 : decode b_Template_braced 93 = .ok (.getfield 47, 3) := by decide +kernel
theorem d_Template_braced_96 : decode b_Template_braced 96 = .ok (.istore 7, 2) := by decide +kernel
theorem d_Template_braced_98 : decode b_Template_braced 98 = .ok (.aload_n 0, 1) := by decide +kernel
theorem d_Template_braced_99 : decode b_Template_braced 99 = .ok (.iload 7, 2) := by decide +kernel
theorem d_Template_braced_101 : decode b_Template_braced 101 = .ok (.iload_n 3, 1) := by decide +kernel
theorem d_Template_braced_102 : decode b_Template_braced 102 = .ok (.iload 6, 2) := by decide +kernel
theorem d_Template_braced_104 : decode b_Template_braced 104 = .ok (.ifCond .ne 7, 3) := by decide +kernel
theorem d_Template_braced_107 : decode b_Template_braced 107 = .ok (.iconst 1, 1) := by decide +kernel
theorem d_Template_braced_108 : decode b_Template_braced 108 = .ok (.goto 4, 3) := by decide +kernel
theorem d_Template_braced_111 : decode b_Template_braced 111 = .ok (.iconst 0, 1) := by decide +kernel
theorem d_Template_braced_112 : decode b_Template_braced 112 = .ok (.invokevirtual 170, 3) := by decide +kernel
theorem d_Template_braced_115 : decode b_Template_braced 115 = .ok (.istore 8, 2) := by decide +kernel
theorem d_Template_braced_117 : decode b_Template_braced 117 = .ok (.iload 8, 2) := by decide +kernel
theorem d_Template_braced_119 : decode b_Template_braced 119 = .ok (.ifCond .ge 11, 3) := by decide +kernel
theorem d_Template_braced_122 : decode b_Template_braced 122 = .ok (.aload_n 0, 1) := by decide +kernel
theorem d_Template_braced_123 : decode b_Template_braced 123 = .ok (.bipush (-58), 2) := by decide +kernel
theorem d_Template_braced_125 : decode b_Template_braced 125 = .ok (.iload_n 2, 1) := by decide +kernel
theorem d_Template_braced_126 : decode b_Template_braced 126 = .ok (.invokevirtual 141, 3) := by decide +kernel
theorem d_Template_braced_129 : decode b_Template_braced 129 = .ok (.ireturn, 1) := by decide +kernel
theorem d_Template_braced_130 : decode b_Template_braced 130 = .ok (.iload 8, 2) := by decide +kernel
theorem d_Template_braced_132 : decode b_Template_braced 132 = .ok (.istore 9, 2) := by decide +kernel
theorem d_Template_braced_134 : decode b_Template_braced 134 = .ok (.iload 8, 2) := by decide +kernel
theorem d_Template_braced_136 : decode b_Template_braced 136 = .ok (.istore 10, 2) := by decide +kernel
theorem d_Template_braced_138 : decode b_Template_braced 138 = .ok (.aload_n 0, 1) := by decide +kernel
theorem d_Template_braced_139 : decode b_Template_braced 139 = .ok (.getfield 23, 3) := by decide +kernel
theorem d_Template_braced_142 : decode b_Template_braced 142 = .ok (.iload 8, 2) := by decide +kernel
theorem d_Template_braced_144 : decode b_Template_braced 144 = .ok (.iaload, 1) := by decide +kernel
theorem d_Template_braced_145 : decode b_Template_braced 145 = .ok (.bipush 58, 2) := by decide +kernel
theorem d_Template_braced_147 : decode b_Template_braced 147 = .ok (.if_icmp .ne 32, 3) := by decide +kernel
theorem d_Template_braced_150 : decode b_Template_braced 150 = .ok (.iload 8, 2) := by decide +kernel
theorem d_Template_braced_152 : decode b_Template_braced 152 = .ok (.iconst 1, 1) := by decide +kernel
theorem d_Template_braced_153 : decode b_Template_braced 153 = .ok (.iadd, 1) := by decide +kernel
theorem d_Template_braced_154 : decode b_Template_braced 154 = .ok (.istore 9, 2) := by decide +kernel
theorem d_Template_braced_156 : decode b_Template_braced 156 = .ok (.aload_n 0, 1) := by decide +kernel
theorem d_Template_braced_157 : decode b_Template_braced 157 = .ok (.iload 9, 2) := by decide +kernel
theorem d_Template_braced_159 : decode b_Template_braced 159 = .ok (.iload_n 3, 1) := by decide +kernel
theorem d_Template_braced_160 : decode b_Template_braced 160 = .ok (.iconst 0, 1) := by decide +kernel
theorem d_Template_braced_161 : decode b_Template_braced 161 = .ok (.invokevirtual 170, 3) := by decide +kernel
theorem d_Template_braced_164 : decode b_Template_braced 164 = .ok (.istore 10, 2) := by decide +kernel
theorem d_Template_braced_166 : decode b_Template_braced 166 = .ok (.iload 10, 2) := by decide +kernel
theorem d_Template_braced_168 : decode b_Template_braced 168 = .ok (.ifCond .ge 11, 3) := by decide +kernel
theorem d_Template_braced_171 : decode b_Template_braced 171 = .ok (.aload_n 0, 1) := by decide +kernel
theorem d_Template_braced_172 : decode b_Template_braced 172 = .ok (.bipush (-58), 2) := by decide +kernel
theorem d_Template_braced_174 : decode b_Template_braced 174 = .ok (.iload_n 2, 1) := by decide +kernel
theorem d_Template_braced_175 : decode b_Template_braced 175 = .ok (.invokevirtual 141, 3) := by decide +kernel
theorem d_Template_braced_178 : decode b_Template_braced 178 = .ok (.ireturn, 1) := by decide +kernel
theorem d_Template_braced_179 : decode b_Template_braced 179 = .ok (.iload 4, 2) := by decide +kernel
theorem d_Template_braced_181 : decode b_Template_braced 181 = .ok (.bipush 20, 2) := by decide +kernel
theorem d_Template_braced_183 : decode b_Template_braced 183 = .ok (.if_icmp .ne 11, 3) := by decide +kernel
theorem d_Template_braced_186 : decode b_Template_braced 186 = .ok (.aload_n 0, 1) := by decide +kernel
theorem d_Template_braced_187 : decode b_Template_braced 187 = .ok (.bipush (-35), 2) := by decide +kernel
theorem d_Template_braced_189 : decode b_Template_braced 189 = .ok (.iload_n 2, 1) := by decide +kernel
theorem d_Template_braced_190 : decode b_Template_braced 190 = .ok (.invokevirtual 141, 3) := by decide +kernel
theorem d_Template_braced_193 : decode b_Template_braced 193 = .ok (.ireturn, 1) := by decide +kernel
theorem d_Template_braced_194 : decode b_Template_braced 194 = .ok (.iload_n 1, 1) := by decide +kernel
theorem d_Template_braced_195 : decode b_Template_braced 195 = .ok (.iconst (-1), 1) := by decide +kernel
theorem d_Template_braced_196 : decode b_Template_braced 196 = .ok (.if_icmp .ne 18, 3) := by decide +kernel
theorem d_Template_braced_199 : decode b_Template_braced 199 = .ok (.aload_n 0, 1) := by decide +kernel
theorem d_Template_braced_200 : decode b_Template_braced 200 = .ok (.getfield 20, 3) := by decide +kernel
theorem d_Template_braced_203 : decode b_Template_braced 203 = .ok (.ifCond .ne 11, 3) := by decide +kernel
theorem d_Template_braced_206 : decode b_Template_braced 206 = .ok (.aload_n 0, 1) := by decide +kernel
theorem d_Template_braced_207 : decode b_Template_braced 207 = .ok (.bipush (-49), 2) := by decide +kernel
theorem d_Template_braced_209 : decode b_Template_braced 209 = .ok (.iload_n 2, 1) := by decide +kernel
theorem d_Template_braced_210 : decode b_Template_braced 210 = .ok (.invokevirtual 141, 3) := by decide +kernel
theorem d_Template_braced_213 : decode b_Template_braced 213 = .ok (.ireturn, 1) := by decide +kernel
theorem d_Template_braced_214 : decode b_Template_braced 214 = .ok (.iload 6, 2) := by decide +kernel
theorem d_Template_braced_216 : decode b_Template_braced 216 = .ok (.ifCond .eq 33, 3) := by decide +kernel
theorem d_Template_braced_219 : decode b_Template_braced 219 = .ok (.iload_n 1, 1) := by decide +kernel
theorem d_Template_braced_220 : decode b_Template_braced 220 = .ok (.ifCond .lt 12, 3) := by decide +kernel
theorem d_Template_braced_223 : decode b_Template_braced 223 = .ok (.aload_n 0, 1) := by decide +kernel
theorem d_Template_braced_224 : decode b_Template_braced 224 = .ok (.iload_n 1, 1) := by decide +kernel
theorem d_Template_braced_225 : decode b_Template_braced 225 = .ok (.iload_n 2, 1) := by decide +kernel
theorem d_Template_braced_226 : decode b_Template_braced 226 = .ok (.invokevirtual 144, 3) := by decide +kernel
theorem d_Template_braced_229 : decode b_Template_braced 229 = .ok (.goto 15, 3) := by decide +kernel
theorem d_Template_braced_232 : decode b_Template_braced 232 = .ok (.aload_n 0, 1) := by decide +kernel
theorem d_Template_braced_233 : decode b_Template_braced 233 = .ok (.iload 7, 2) := by decide +kernel
theorem d_Template_braced_235 : decode b_Template_braced 235 = .ok (.iload 8, 2) := by decide +kernel
theorem d_Template_braced_237 : decode b_Template_braced 237 = .ok (.iload 4, 2) := by decide +kernel
theorem d_Template_braced_239 : decode b_Template_braced 239 = .ok (.iconst 1, 1) := by decide +kernel
theorem d_Template_braced_240 : decode b_Template_braced 240 = .ok (.iadd, 1) := by decide +kernel
theorem d_Template_braced_241 : decode b_Template_braced 241 = .ok (.invokevirtual 104, 3) := by decide +kernel
theorem d_Template_braced_244 : decode b_Template_braced 244 = .ok (.istore 11, 2) := by decide +kernel
theorem d_Template_braced_246 : decode b_Template_braced 246 = .ok (.goto 36, 3) := by decide +kernel
theorem d_Template_braced_249 : decode b_Template_braced 249 = .ok (.iload_n 1, 1) := by decide +kernel
theorem d_Template_braced_250 : decode b_Template_braced 250 = .ok (.ifCond .lt 18, 3) := by decide +kernel
theorem d_Template_braced_253 : decode b_Template_braced 253 = .ok (.aload_n 0, 1) := by decide +kernel
theorem d_Template_braced_254 : decode b_Template_braced 254 = .ok (.iload 7, 2) := by decide +kernel
theorem d_Template_braced_256 : decode b_Template_braced 256 = .ok (.iload 8, 2) := by decide +kernel
theorem d_Template_braced_258 : decode b_Template_braced 258 = .ok (.iload 4, 2) := by decide +kernel
theorem d_Template_braced_260 : decode b_Template_braced 260 = .ok (.iconst 1, 1) := by decide +kernel
theorem d_Template_braced_261 : decode b_Template_braced 261 = .ok (.iadd, 1) := by decide +kernel
theorem d_Template_braced_262 : decode b_Template_braced 262 = .ok (.invokevirtual 104, 3) := by decide +kernel
theorem d_Template_braced_265 : decode b_Template_braced 265 = .ok (.goto 15, 3) := by decide +kernel
theorem d_Template_braced_268 : decode b_Template_braced 268 = .ok (.aload_n 0, 1) := by decide +kernel
theorem d_Template_braced_269 : decode b_Template_braced 269 = .ok (.iload 9, 2) := by decide +kernel
theorem d_Template_braced_271 : decode b_Template_braced 271 = .ok (.iload 10, 2) := by decide +kernel
theorem d_Template_braced_273 : decode b_Template_braced 273 = .ok (.iload 4, 2) := by decide +kernel
theorem d_Template_braced_275 : decode b_Template_braced 275 = .ok (.iconst 1, 1) := by decide +kernel
theorem d_Template_braced_276 : decode b_Template_braced 276 = .ok (.iadd, 1) := by decide +kernel
theorem d_Template_braced_277 : decode b_Template_braced 277 = .ok (.invokevirtual 104, 3) := by decide +kernel
theorem d_Template_braced_280 : decode b_Template_braced 280 = .ok (.istore 11, 2) := by decide +kernel
theorem d_Template_braced_282 : decode b_Template_braced 282 = .ok (.aload_n 0, 1) := by decide +kernel
theorem d_Template_braced_283 : decode b_Template_braced 283 = .ok (.iload 10, 2) := by decide +kernel
theorem d_Template_braced_285 : decode b_Template_braced 285 = .ok (.iconst 1, 1) := by decide +kernel
theorem d_Template_braced_286 : decode b_Template_braced 286 = .ok (.iadd, 1) := by decide +kernel
theorem d_Template_braced_287 : decode b_Template_braced 287 = .ok (.putfield 47, 3) := by decide +kernel
theorem d_Template_braced_290 : decode b_Template_braced 290 = .ok (.iload 11, 2) := by decide +kernel
theorem d_Template_braced_292 : decode b_Template_braced 292 = .ok (.ireturn, 1) := by decide +kernel
abbrev b_Template_close : ByteArray := prog_17_method_18_code
abbrev y_Template_close : MethodName := ⟨"ReplacementWriterModel$Template", "close", "(IIZ)I"⟩
theorem d_Template_close_0 : decode b_Template_close 0 = .ok (.iconst 0, 1) := by decide +kernel
theorem d_Template_close_1 : decode b_Template_close 1 = .ok (.istore 4, 2) := by decide +kernel
theorem d_Template_close_3 : decode b_Template_close 3 = .ok (.iload_n 1, 1) := by decide +kernel
theorem d_Template_close_4 : decode b_Template_close 4 = .ok (.istore 5, 2) := by decide +kernel
theorem d_Template_close_6 : decode b_Template_close 6 = .ok (.iload 5, 2) := by decide +kernel
theorem d_Template_close_8 : decode b_Template_close 8 = .ok (.iload_n 2, 1) := by decide +kernel
theorem d_Template_close_9 : decode b_Template_close 9 = .ok (.if_icmp .ge 101, 3) := by decide +kernel
theorem d_Template_close_12 : decode b_Template_close 12 = .ok (.aload_n 0, 1) := by decide +kernel
theorem d_Template_close_13 : decode b_Template_close 13 = .ok (.getfield 23, 3) := by decide +kernel
theorem d_Template_close_16 : decode b_Template_close 16 = .ok (.iload 5, 2) := by decide +kernel
theorem d_Template_close_18 : decode b_Template_close 18 = .ok (.iaload, 1) := by decide +kernel
theorem d_Template_close_19 : decode b_Template_close 19 = .ok (.istore 6, 2) := by decide +kernel
theorem d_Template_close_21 : decode b_Template_close 21 = .ok (.iload 6, 2) := by decide +kernel
theorem d_Template_close_23 : decode b_Template_close 23 = .ok (.bipush 92, 2) := by decide +kernel
theorem d_Template_close_25 : decode b_Template_close 25 = .ok (.if_icmp .ne 9, 3) := by decide +kernel
theorem d_Template_close_28 : decode b_Template_close 28 = .ok (.iinc 5 1, 3) := by decide +kernel
theorem d_Template_close_31 : decode b_Template_close 31 = .ok (.goto 73, 3) := by decide +kernel
theorem d_Template_close_34 : decode b_Template_close 34 = .ok (.iload 6, 2) := by decide +kernel
theorem d_Template_close_36 : decode b_Template_close 36 = .ok (.bipush 36, 2) := by decide +kernel
theorem d_Template_close_38 : decode b_Template_close 38 = .ok (.if_icmp .ne 26, 3) := by decide +kernel
theorem d_Template_close_41 : decode b_Template_close 41 = .ok (.aload_n 0, 1) := by decide +kernel
theorem d_Template_close_42 : decode b_Template_close 42 = .ok (.iload 5, 2) := by decide +kernel
theorem d_Template_close_44 : decode b_Template_close 44 = .ok (.iconst 1, 1) := by decide +kernel
theorem d_Template_close_45 : decode b_Template_close 45 = .ok (.iadd, 1) := by decide +kernel
theorem d_Template_close_46 : decode b_Template_close 46 = .ok (.iload_n 2, 1) := by decide +kernel
theorem d_Template_close_47 : decode b_Template_close 47 = .ok (.invokevirtual 97, 3) := by decide +kernel
theorem d_Template_close_50 : decode b_Template_close 50 = .ok (.bipush 123, 2) := by decide +kernel
theorem d_Template_close_52 : decode b_Template_close 52 = .ok (.if_icmp .ne 12, 3) := by decide +kernel
theorem d_Template_close_55 : decode b_Template_close 55 = .ok (.iinc 4 1, 3) := by decide +kernel
theorem d_Template_close_58 : decode b_Template_close 58 = .ok (.iinc 5 1, 3) := by decide +kernel
theorem d_Template_close_61 : decode b_Template_close 61 = .ok (.goto 43, 3) := by decide +kernel
theorem d_Template_close_64 : decode b_Template_close 64 = .ok (.iload 6, 2) := by decide +kernel
theorem d_Template_close_66 : decode b_Template_close 66 = .ok (.bipush 125, 2) := by decide +kernel
theorem d_Template_close_68 : decode b_Template_close 68 = .ok (.if_icmp .ne 17, 3) := by decide +kernel
theorem d_Template_close_71 : decode b_Template_close 71 = .ok (.iload 4, 2) := by decide +kernel
theorem d_Template_close_73 : decode b_Template_close 73 = .ok (.ifCond .ne 6, 3) := by decide +kernel
theorem d_Template_close_76 : decode b_Template_close 76 = .ok (.iload 5, 2) := by decide +kernel
theorem d_Template_close_78 : decode b_Template_close 78 = .ok (.ireturn, 1) := by decide +kernel
theorem d_Template_close_79 : decode b_Template_close 79 = .ok (.iinc 4 (-1), 3) := by decide +kernel
theorem d_Template_close_82 : decode b_Template_close 82 = .ok (.goto 22, 3) := by decide +kernel
theorem d_Template_close_85 : decode b_Template_close 85 = .ok (.iload 6, 2) := by decide +kernel
theorem d_Template_close_87 : decode b_Template_close 87 = .ok (.bipush 58, 2) := by decide +kernel
theorem d_Template_close_89 : decode b_Template_close 89 = .ok (.if_icmp .ne 15, 3) := by decide +kernel
theorem d_Template_close_92 : decode b_Template_close 92 = .ok (.iload_n 3, 1) := by decide +kernel
theorem d_Template_close_93 : decode b_Template_close 93 = .ok (.ifCond .eq 11, 3) := by decide +kernel
theorem d_Template_close_96 : decode b_Template_close 96 = .ok (.iload 4, 2) := by decide +kernel
theorem d_Template_close_98 : decode b_Template_close 98 = .ok (.ifCond .ne 6, 3) := by decide +kernel
theorem d_Template_close_101 : decode b_Template_close 101 = .ok (.iload 5, 2) := by decide +kernel
theorem d_Template_close_103 : decode b_Template_close 103 = .ok (.ireturn, 1) := by decide +kernel
theorem d_Template_close_104 : decode b_Template_close 104 = .ok (.iinc 5 1, 3) := by decide +kernel
theorem d_Template_close_107 : decode b_Template_close 107 = .ok (.goto (-101), 3) := by decide +kernel
theorem d_Template_close_110 : decode b_Template_close 110 = .ok (.iconst (-1), 1) := by decide +kernel
theorem d_Template_close_111 : decode b_Template_close 111 = .ok (.ireturn, 1) := by decide +kernel
abbrev b_Template_slash : ByteArray := prog_17_method_19_code
abbrev y_Template_slash : MethodName := ⟨"ReplacementWriterModel$Template", "slash", "(I)I"⟩
theorem d_Template_slash_0 : decode b_Template_slash 0 = .ok (.aload_n 0, 1) := by decide +kernel
theorem d_Template_slash_1 : decode b_Template_slash 1 = .ok (.getfield 47, 3) := by decide +kernel
theorem d_Template_slash_4 : decode b_Template_slash 4 = .ok (.istore_n 2, 1) := by decide +kernel
theorem d_Template_slash_5 : decode b_Template_slash 5 = .ok (.aload_n 0, 1) := by decide +kernel
theorem d_Template_slash_6 : decode b_Template_slash 6 = .ok (.dup, 1) := by decide +kernel
theorem d_Template_slash_7 : decode b_Template_slash 7 = .ok (.getfield 47, 3) := by decide +kernel
theorem d_Template_slash_10 : decode b_Template_slash 10 = .ok (.iconst 1, 1) := by decide +kernel
theorem d_Template_slash_11 : decode b_Template_slash 11 = .ok (.iadd, 1) := by decide +kernel
theorem d_Template_slash_12 : decode b_Template_slash 12 = .ok (.putfield 47, 3) := by decide +kernel
theorem d_Template_slash_15 : decode b_Template_slash 15 = .ok (.aload_n 0, 1) := by decide +kernel
theorem d_Template_slash_16 : decode b_Template_slash 16 = .ok (.aload_n 0, 1) := by decide +kernel
theorem d_Template_slash_17 : decode b_Template_slash 17 = .ok (.getfield 47, 3) := by decide +kernel
theorem d_Template_slash_20 : decode b_Template_slash 20 = .ok (.iload_n 1, 1) := by decide +kernel
theorem d_Template_slash_21 : decode b_Template_slash 21 = .ok (.invokevirtual 97, 3) := by decide +kernel
theorem d_Template_slash_24 : decode b_Template_slash 24 = .ok (.istore_n 3, 1) := by decide +kernel
theorem d_Template_slash_25 : decode b_Template_slash 25 = .ok (.iload_n 3, 1) := by decide +kernel
theorem d_Template_slash_26 : decode b_Template_slash 26 = .ok (.ifCond .ge 11, 3) := by decide +kernel
theorem d_Template_slash_29 : decode b_Template_slash 29 = .ok (.aload_n 0, 1) := by decide +kernel
theorem d_Template_slash_30 : decode b_Template_slash 30 = .ok (.bipush (-57), 2) := by decide +kernel
theorem d_Template_slash_32 : decode b_Template_slash 32 = .ok (.iload_n 2, 1) := by decide +kernel
theorem d_Template_slash_33 : decode b_Template_slash 33 = .ok (.invokevirtual 141, 3) := by decide +kernel
theorem d_Template_slash_36 : decode b_Template_slash 36 = .ok (.ireturn, 1) := by decide +kernel
theorem d_Template_slash_37 : decode b_Template_slash 37 = .ok (.aload_n 0, 1) := by decide +kernel
theorem d_Template_slash_38 : decode b_Template_slash 38 = .ok (.dup, 1) := by decide +kernel
theorem d_Template_slash_39 : decode b_Template_slash 39 = .ok (.getfield 47, 3) := by decide +kernel
theorem d_Template_slash_42 : decode b_Template_slash 42 = .ok (.iconst 1, 1) := by decide +kernel
theorem d_Template_slash_43 : decode b_Template_slash 43 = .ok (.iadd, 1) := by decide +kernel
theorem d_Template_slash_44 : decode b_Template_slash 44 = .ok (.putfield 47, 3) := by decide +kernel
theorem d_Template_slash_47 : decode b_Template_slash 47 = .ok (.iload_n 3, 1) := by decide +kernel
theorem d_Template_slash_48 : decode b_Template_slash 48 = .ok (.invokestatic 85, 3) := by decide +kernel
theorem d_Template_slash_51 : decode b_Template_slash 51 = .ok (.ifCond .ne 25, 3) := by decide +kernel
theorem d_Template_slash_54 : decode b_Template_slash 54 = .ok (.iload_n 3, 1) := by decide +kernel
theorem d_Template_slash_55 : decode b_Template_slash 55 = .ok (.invokestatic 88, 3) := by decide +kernel
theorem d_Template_slash_58 : decode b_Template_slash 58 = .ok (.ifCond .ne 18, 3) := by decide +kernel
theorem d_Template_slash_61 : decode b_Template_slash 61 = .ok (.aload_n 0, 1) := by decide +kernel
theorem d_Template_slash_62 : decode b_Template_slash 62 = .ok (.iload_n 3, 1) := by decide +kernel
theorem d_Template_slash_63 : decode b_Template_slash 63 = .ok (.invokevirtual 114, 3) := by decide +kernel
theorem d_Template_slash_66 : decode b_Template_slash 66 = .ok (.ifCond .eq 7, 3) := by decide +kernel
theorem d_Template_slash_69 : decode b_Template_slash 69 = .ok (.iconst 0, 1) := by decide +kernel
theorem d_Template_slash_70 : decode b_Template_slash 70 = .ok (.goto 5, 3) := by decide +kernel
theorem d_Template_slash_73 : decode b_Template_slash 73 = .ok (.bipush (-48), 2) := by decide +kernel
theorem d_Template_slash_75 : decode b_Template_slash 75 = .ok (.ireturn, 1) := by decide +kernel
theorem d_Template_slash_76 : decode b_Template_slash 76 = .ok (.iload_n 3, 1) := by decide +kernel
theorem d_Template_slash_77 : decode b_Template_slash 77 = .ok (.lookupswitch 162 #[(69, 127), (76, 141), (81, 59), (85, 134), (108, 155), (117, 148)], 59) := by decide +kernel
theorem d_Template_slash_136 : decode b_Template_slash 136 = .ok (.aload_n 0, 1) := by decide +kernel
theorem d_Template_slash_137 : decode b_Template_slash 137 = .ok (.getfield 47, 3) := by decide +kernel
theorem d_Template_slash_140 : decode b_Template_slash 140 = .ok (.iload_n 1, 1) := by decide +kernel
theorem d_Template_slash_141 : decode b_Template_slash 141 = .ok (.if_icmp .ge 43, 3) := by decide +kernel
theorem d_Template_slash_144 : decode b_Template_slash 144 = .ok (.aload_n 0, 1) := by decide +kernel
theorem d_Template_slash_145 : decode b_Template_slash 145 = .ok (.aload_n 0, 1) := by decide +kernel
theorem d_Template_slash_146 : decode b_Template_slash 146 = .ok (.getfield 47, 3) := by decide +kernel
theorem d_Template_slash_149 : decode b_Template_slash 149 = .ok (.iload_n 1, 1) := by decide +kernel
theorem d_Template_slash_150 : decode b_Template_slash 150 = .ok (.ldc 173, 2) := by decide +kernel
theorem d_Template_slash_152 : decode b_Template_slash 152 = .ok (.invokevirtual 153, 3) := by decide +kernel
theorem d_Template_slash_155 : decode b_Template_slash 155 = .ok (.ifCond .ne 29, 3) := by decide +kernel
theorem d_Template_slash_158 : decode b_Template_slash 158 = .ok (.aload_n 0, 1) := by decide +kernel
theorem d_Template_slash_159 : decode b_Template_slash 159 = .ok (.aload_n 0, 1) := by decide +kernel
theorem d_Template_slash_160 : decode b_Template_slash 160 = .ok (.getfield 23, 3) := by decide +kernel
theorem d_Template_slash_163 : decode b_Template_slash 163 = .ok (.aload_n 0, 1) := by decide +kernel
theorem d_Template_slash_164 : decode b_Template_slash 164 = .ok (.dup, 1) := by decide +kernel
theorem d_Template_slash_165 : decode b_Template_slash 165 = .ok (.getfield 47, 3) := by decide +kernel
theorem d_Template_slash_168 : decode b_Template_slash 168 = .ok (.dup_x1, 1) := by decide +kernel
theorem d_Template_slash_169 : decode b_Template_slash 169 = .ok (.iconst 1, 1) := by decide +kernel
theorem d_Template_slash_170 : decode b_Template_slash 170 = .ok (.iadd, 1) := by decide +kernel
theorem d_Template_slash_171 : decode b_Template_slash 171 = .ok (.putfield 47, 3) := by decide +kernel
theorem d_Template_slash_174 : decode b_Template_slash 174 = .ok (.iaload, 1) := by decide +kernel
theorem d_Template_slash_175 : decode b_Template_slash 175 = .ok (.invokevirtual 114, 3) := by decide +kernel
theorem d_Template_slash_178 : decode b_Template_slash 178 = .ok (.ifCond .ne (-42), 3) := by decide +kernel
theorem d_Template_slash_181 : decode b_Template_slash 181 = .ok (.bipush (-48), 2) := by decide +kernel
theorem d_Template_slash_183 : decode b_Template_slash 183 = .ok (.ireturn, 1) := by decide +kernel
theorem d_Template_slash_184 : decode b_Template_slash 184 = .ok (.aload_n 0, 1) := by decide +kernel
theorem d_Template_slash_185 : decode b_Template_slash 185 = .ok (.getfield 47, 3) := by decide +kernel
theorem d_Template_slash_188 : decode b_Template_slash 188 = .ok (.iload_n 1, 1) := by decide +kernel
theorem d_Template_slash_189 : decode b_Template_slash 189 = .ok (.if_icmp .ge 13, 3) := by decide +kernel
theorem d_Template_slash_192 : decode b_Template_slash 192 = .ok (.aload_n 0, 1) := by decide +kernel
theorem d_Template_slash_193 : decode b_Template_slash 193 = .ok (.dup, 1) := by decide +kernel
theorem d_Template_slash_194 : decode b_Template_slash 194 = .ok (.getfield 47, 3) := by decide +kernel
theorem d_Template_slash_197 : decode b_Template_slash 197 = .ok (.iconst 2, 1) := by decide +kernel
theorem d_Template_slash_198 : decode b_Template_slash 198 = .ok (.iadd, 1) := by decide +kernel
theorem d_Template_slash_199 : decode b_Template_slash 199 = .ok (.putfield 47, 3) := by decide +kernel
theorem d_Template_slash_202 : decode b_Template_slash 202 = .ok (.iconst 0, 1) := by decide +kernel
theorem d_Template_slash_203 : decode b_Template_slash 203 = .ok (.ireturn, 1) := by decide +kernel
theorem d_Template_slash_204 : decode b_Template_slash 204 = .ok (.aload_n 0, 1) := by decide +kernel
theorem d_Template_slash_205 : decode b_Template_slash 205 = .ok (.iconst 0, 1) := by decide +kernel
theorem d_Template_slash_206 : decode b_Template_slash 206 = .ok (.putfield 38, 3) := by decide +kernel
theorem d_Template_slash_209 : decode b_Template_slash 209 = .ok (.iconst 0, 1) := by decide +kernel
theorem d_Template_slash_210 : decode b_Template_slash 210 = .ok (.ireturn, 1) := by decide +kernel
theorem d_Template_slash_211 : decode b_Template_slash 211 = .ok (.aload_n 0, 1) := by decide +kernel
theorem d_Template_slash_212 : decode b_Template_slash 212 = .ok (.iconst 1, 1) := by decide +kernel
theorem d_Template_slash_213 : decode b_Template_slash 213 = .ok (.putfield 38, 3) := by decide +kernel
theorem d_Template_slash_216 : decode b_Template_slash 216 = .ok (.iconst 0, 1) := by decide +kernel
theorem d_Template_slash_217 : decode b_Template_slash 217 = .ok (.ireturn, 1) := by decide +kernel
theorem d_Template_slash_218 : decode b_Template_slash 218 = .ok (.aload_n 0, 1) := by decide +kernel
theorem d_Template_slash_219 : decode b_Template_slash 219 = .ok (.iconst 2, 1) := by decide +kernel
theorem d_Template_slash_220 : decode b_Template_slash 220 = .ok (.putfield 38, 3) := by decide +kernel
theorem d_Template_slash_223 : decode b_Template_slash 223 = .ok (.iconst 0, 1) := by decide +kernel
theorem d_Template_slash_224 : decode b_Template_slash 224 = .ok (.ireturn, 1) := by decide +kernel
theorem d_Template_slash_225 : decode b_Template_slash 225 = .ok (.aload_n 0, 1) := by decide +kernel
theorem d_Template_slash_226 : decode b_Template_slash 226 = .ok (.iconst 1, 1) := by decide +kernel
theorem d_Template_slash_227 : decode b_Template_slash 227 = .ok (.putfield 41, 3) := by decide +kernel
theorem d_Template_slash_230 : decode b_Template_slash 230 = .ok (.iconst 0, 1) := by decide +kernel
theorem d_Template_slash_231 : decode b_Template_slash 231 = .ok (.ireturn, 1) := by decide +kernel
theorem d_Template_slash_232 : decode b_Template_slash 232 = .ok (.aload_n 0, 1) := by decide +kernel
theorem d_Template_slash_233 : decode b_Template_slash 233 = .ok (.iconst 2, 1) := by decide +kernel
theorem d_Template_slash_234 : decode b_Template_slash 234 = .ok (.putfield 41, 3) := by decide +kernel
theorem d_Template_slash_237 : decode b_Template_slash 237 = .ok (.iconst 0, 1) := by decide +kernel
theorem d_Template_slash_238 : decode b_Template_slash 238 = .ok (.ireturn, 1) := by decide +kernel
theorem d_Template_slash_239 : decode b_Template_slash 239 = .ok (.aload_n 0, 1) := by decide +kernel
theorem d_Template_slash_240 : decode b_Template_slash 240 = .ok (.iload_n 3, 1) := by decide +kernel
theorem d_Template_slash_241 : decode b_Template_slash 241 = .ok (.iload_n 1, 1) := by decide +kernel
theorem d_Template_slash_242 : decode b_Template_slash 242 = .ok (.invokevirtual 175, 3) := by decide +kernel
theorem d_Template_slash_245 : decode b_Template_slash 245 = .ok (.lstore 4, 2) := by decide +kernel
theorem d_Template_slash_247 : decode b_Template_slash 247 = .ok (.lload 4, 2) := by decide +kernel
theorem d_Template_slash_249 : decode b_Template_slash 249 = .ok (.lconst 0, 1) := by decide +kernel
theorem d_Template_slash_250 : decode b_Template_slash 250 = .ok (.lcmp, 1) := by decide +kernel
theorem d_Template_slash_251 : decode b_Template_slash 251 = .ok (.ifCond .lt 56, 3) := by decide +kernel
theorem d_Template_slash_254 : decode b_Template_slash 254 = .ok (.lload 4, 2) := by decide +kernel
theorem d_Template_slash_256 : decode b_Template_slash 256 = .ok (.aload_n 0, 1) := by decide +kernel
theorem d_Template_slash_257 : decode b_Template_slash 257 = .ok (.getfield 50, 3) := by decide +kernel
theorem d_Template_slash_260 : decode b_Template_slash 260 = .ok (.getfield 78, 3) := by decide +kernel
theorem d_Template_slash_263 : decode b_Template_slash 263 = .ok (.ifCond .eq 8, 3) := by decide +kernel
theorem d_Template_slash_266 : decode b_Template_slash 266 = .ok (.ldc 179, 2) := by decide +kernel
theorem d_Template_slash_268 : decode b_Template_slash 268 = .ok (.goto 6, 3) := by decide +kernel
theorem d_Template_slash_271 : decode b_Template_slash 271 = .ok (.sipush 255, 3) := by decide +kernel
theorem d_Template_slash_274 : decode b_Template_slash 274 = .ok (.i2l, 1) := by decide +kernel
theorem d_Template_slash_275 : decode b_Template_slash 275 = .ok (.lcmp, 1) := by decide +kernel
theorem d_Template_slash_276 : decode b_Template_slash 276 = .ok (.ifCond .gt 31, 3) := by decide +kernel
theorem d_Template_slash_279 : decode b_Template_slash 279 = .ok (.aload_n 0, 1) := by decide +kernel
theorem d_Template_slash_280 : decode b_Template_slash 280 = .ok (.getfield 50, 3) := by decide +kernel
theorem d_Template_slash_283 : decode b_Template_slash 283 = .ok (.getfield 78, 3) := by decide +kernel
theorem d_Template_slash_286 : decode b_Template_slash 286 = .ok (.ifCond .eq 29, 3) := by decide +kernel
theorem d_Template_slash_289 : decode b_Template_slash 289 = .ok (.lload 4, 2) := by decide +kernel
theorem d_Template_slash_291 : decode b_Template_slash 291 = .ok (.ldc2_w 180, 3) := by decide +kernel
theorem d_Template_slash_294 : decode b_Template_slash 294 = .ok (.lcmp, 1) := by decide +kernel
theorem d_Template_slash_295 : decode b_Template_slash 295 = .ok (.ifCond .lt 20, 3) := by decide +kernel
theorem d_Template_slash_298 : decode b_Template_slash 298 = .ok (.lload 4, 2) := by decide +kernel
theorem d_Template_slash_300 : decode b_Template_slash 300 = .ok (.ldc2_w 182, 3) := by decide +kernel
theorem d_Template_slash_303 : decode b_Template_slash 303 = .ok (.lcmp, 1) := by decide +kernel
theorem d_Template_slash_304 : decode b_Template_slash 304 = .ok (.ifCond .gt 11, 3) := by decide +kernel
theorem d_Template_slash_307 : decode b_Template_slash 307 = .ok (.aload_n 0, 1) := by decide +kernel
theorem d_Template_slash_308 : decode b_Template_slash 308 = .ok (.bipush (-57), 2) := by decide +kernel
theorem d_Template_slash_310 : decode b_Template_slash 310 = .ok (.iload_n 2, 1) := by decide +kernel
theorem d_Template_slash_311 : decode b_Template_slash 311 = .ok (.invokevirtual 141, 3) := by decide +kernel
theorem d_Template_slash_314 : decode b_Template_slash 314 = .ok (.ireturn, 1) := by decide +kernel
theorem d_Template_slash_315 : decode b_Template_slash 315 = .ok (.aload_n 0, 1) := by decide +kernel
theorem d_Template_slash_316 : decode b_Template_slash 316 = .ok (.lload 4, 2) := by decide +kernel
theorem d_Template_slash_318 : decode b_Template_slash 318 = .ok (.l2i, 1) := by decide +kernel
theorem d_Template_slash_319 : decode b_Template_slash 319 = .ok (.invokevirtual 114, 3) := by decide +kernel
theorem d_Template_slash_322 : decode b_Template_slash 322 = .ok (.ifCond .eq 7, 3) := by decide +kernel
theorem d_Template_slash_325 : decode b_Template_slash 325 = .ok (.iconst 0, 1) := by decide +kernel
theorem d_Template_slash_326 : decode b_Template_slash 326 = .ok (.goto 5, 3) := by decide +kernel
theorem d_Template_slash_329 : decode b_Template_slash 329 = .ok (.bipush (-48), 2) := by decide +kernel
theorem d_Template_slash_331 : decode b_Template_slash 331 = .ok (.ireturn, 1) := by decide +kernel
abbrev b_Template_character : ByteArray := prog_17_method_23_code
abbrev y_Template_character : MethodName := ⟨"ReplacementWriterModel$Template", "character", "(II)J"⟩
theorem d_Template_character_0 : decode b_Template_character 0 = .ok (.iload_n 1, 1) := by decide +kernel
theorem d_Template_character_1 : decode b_Template_character 1 = .ok (.lookupswitch 246 #[(48, 176), (97, 91), (99, 115), (101, 95), (102, 99), (110, 103), (111, 185), (114, 107), (116, 111), (120, 213)], 91) := by decide +kernel
theorem d_Template_character_92 : decode b_Template_character 92 = .ok (.ldc2_w 196, 3) := by decide +kernel
theorem d_Template_character_95 : decode b_Template_character 95 = .ok (.lreturn, 1) := by decide +kernel
theorem d_Template_character_96 : decode b_Template_character 96 = .ok (.ldc2_w 198, 3) := by decide +kernel
theorem d_Template_character_99 : decode b_Template_character 99 = .ok (.lreturn, 1) := by decide +kernel
theorem d_Template_character_100 : decode b_Template_character 100 = .ok (.ldc2_w 200, 3) := by decide +kernel
theorem d_Template_character_103 : decode b_Template_character 103 = .ok (.lreturn, 1) := by decide +kernel
theorem d_Template_character_104 : decode b_Template_character 104 = .ok (.ldc2_w 202, 3) := by decide +kernel
theorem d_Template_character_107 : decode b_Template_character 107 = .ok (.lreturn, 1) := by decide +kernel
theorem d_Template_character_108 : decode b_Template_character 108 = .ok (.ldc2_w 204, 3) := by decide +kernel
theorem d_Template_character_111 : decode b_Template_character 111 = .ok (.lreturn, 1) := by decide +kernel
theorem d_Template_character_112 : decode b_Template_character 112 = .ok (.ldc2_w 206, 3) := by decide +kernel
theorem d_Template_character_115 : decode b_Template_character 115 = .ok (.lreturn, 1) := by decide +kernel
theorem d_Template_character_116 : decode b_Template_character 116 = .ok (.aload_n 0, 1) := by decide +kernel
theorem d_Template_character_117 : decode b_Template_character 117 = .ok (.aload_n 0, 1) := by decide +kernel
theorem d_Template_character_118 : decode b_Template_character 118 = .ok (.getfield 47, 3) := by decide +kernel
theorem d_Template_character_121 : decode b_Template_character 121 = .ok (.iload_n 2, 1) := by decide +kernel
theorem d_Template_character_122 : decode b_Template_character 122 = .ok (.invokevirtual 97, 3) := by decide +kernel
theorem d_Template_character_125 : decode b_Template_character 125 = .ok (.istore_n 3, 1) := by decide +kernel
theorem d_Template_character_126 : decode b_Template_character 126 = .ok (.iload_n 3, 1) := by decide +kernel
theorem d_Template_character_127 : decode b_Template_character 127 = .ok (.bipush 32, 2) := by decide +kernel
theorem d_Template_character_129 : decode b_Template_character 129 = .ok (.if_icmp .lt 9, 3) := by decide +kernel
theorem d_Template_character_132 : decode b_Template_character 132 = .ok (.iload_n 3, 1) := by decide +kernel
theorem d_Template_character_133 : decode b_Template_character 133 = .ok (.bipush 126, 2) := by decide +kernel
theorem d_Template_character_135 : decode b_Template_character 135 = .ok (.if_icmp .le 7, 3) := by decide +kernel
theorem d_Template_character_138 : decode b_Template_character 138 = .ok (.ldc2_w 187, 3) := by decide +kernel
theorem d_Template_character_141 : decode b_Template_character 141 = .ok (.lreturn, 1) := by decide +kernel
theorem d_Template_character_142 : decode b_Template_character 142 = .ok (.aload_n 0, 1) := by decide +kernel
theorem d_Template_character_143 : decode b_Template_character 143 = .ok (.dup, 1) := by decide +kernel
theorem d_Template_character_144 : decode b_Template_character 144 = .ok (.getfield 47, 3) := by decide +kernel
theorem d_Template_character_147 : decode b_Template_character 147 = .ok (.iconst 1, 1) := by decide +kernel
theorem d_Template_character_148 : decode b_Template_character 148 = .ok (.iadd, 1) := by decide +kernel
theorem d_Template_character_149 : decode b_Template_character 149 = .ok (.putfield 47, 3) := by decide +kernel
theorem d_Template_character_152 : decode b_Template_character 152 = .ok (.iload_n 3, 1) := by decide +kernel
theorem d_Template_character_153 : decode b_Template_character 153 = .ok (.bipush 97, 2) := by decide +kernel
theorem d_Template_character_155 : decode b_Template_character 155 = .ok (.if_icmp .lt 16, 3) := by decide +kernel
theorem d_Template_character_158 : decode b_Template_character 158 = .ok (.iload_n 3, 1) := by decide +kernel
theorem d_Template_character_159 : decode b_Template_character 159 = .ok (.bipush 122, 2) := by decide +kernel
theorem d_Template_character_161 : decode b_Template_character 161 = .ok (.if_icmp .gt 10, 3) := by decide +kernel
theorem d_Template_character_164 : decode b_Template_character 164 = .ok (.iload_n 3, 1) := by decide +kernel
theorem d_Template_character_165 : decode b_Template_character 165 = .ok (.bipush 32, 2) := by decide +kernel
theorem d_Template_character_167 : decode b_Template_character 167 = .ok (.isub, 1) := by decide +kernel
theorem d_Template_character_168 : decode b_Template_character 168 = .ok (.goto 4, 3) := by decide +kernel
theorem d_Template_character_171 : decode b_Template_character 171 = .ok (.iload_n 3, 1) := by decide +kernel
theorem d_Template_character_172 : decode b_Template_character 172 = .ok (.bipush 64, 2) := by decide +kernel
theorem d_Template_character_174 : decode b_Template_character 174 = .ok (.ixor, 1) := by decide +kernel
theorem d_Template_character_175 : decode b_Template_character 175 = .ok (.i2l, 1) := by decide +kernel
theorem d_Template_character_176 : decode b_Template_character 176 = .ok (.lreturn, 1) := by decide +kernel
theorem d_Template_character_177 : decode b_Template_character 177 = .ok (.aload_n 0, 1) := by decide +kernel
theorem d_Template_character_178 : decode b_Template_character 178 = .ok (.bipush 8, 2) := by decide +kernel
theorem d_Template_character_180 : decode b_Template_character 180 = .ok (.iload_n 2, 1) := by decide +kernel
theorem d_Template_character_181 : decode b_Template_character 181 = .ok (.iconst 2, 1) := by decide +kernel
theorem d_Template_character_182 : decode b_Template_character 182 = .ok (.invokevirtual 192, 3) := by decide +kernel
theorem d_Template_character_185 : decode b_Template_character 185 = .ok (.lreturn, 1) := by decide +kernel
theorem d_Template_character_186 : decode b_Template_character 186 = .ok (.aload_n 0, 1) := by decide +kernel
theorem d_Template_character_187 : decode b_Template_character 187 = .ok (.aload_n 0, 1) := by decide +kernel
theorem d_Template_character_188 : decode b_Template_character 188 = .ok (.getfield 47, 3) := by decide +kernel
theorem d_Template_character_191 : decode b_Template_character 191 = .ok (.iload_n 2, 1) := by decide +kernel
theorem d_Template_character_192 : decode b_Template_character 192 = .ok (.invokevirtual 97, 3) := by decide +kernel
theorem d_Template_character_195 : decode b_Template_character 195 = .ok (.bipush 123, 2) := by decide +kernel
theorem d_Template_character_197 : decode b_Template_character 197 = .ok (.if_icmp .ne 13, 3) := by decide +kernel
theorem d_Template_character_200 : decode b_Template_character 200 = .ok (.aload_n 0, 1) := by decide +kernel
theorem d_Template_character_201 : decode b_Template_character 201 = .ok (.bipush 8, 2) := by decide +kernel
theorem d_Template_character_203 : decode b_Template_character 203 = .ok (.iload_n 2, 1) := by decide +kernel
theorem d_Template_character_204 : decode b_Template_character 204 = .ok (.invokevirtual 208, 3) := by decide +kernel
theorem d_Template_character_207 : decode b_Template_character 207 = .ok (.goto 6, 3) := by decide +kernel
theorem d_Template_character_210 : decode b_Template_character 210 = .ok (.ldc2_w 187, 3) := by decide +kernel
theorem d_Template_character_213 : decode b_Template_character 213 = .ok (.lreturn, 1) := by decide +kernel
theorem d_Template_character_214 : decode b_Template_character 214 = .ok (.aload_n 0, 1) := by decide +kernel
theorem d_Template_character_215 : decode b_Template_character 215 = .ok (.aload_n 0, 1) := by decide +kernel
theorem d_Template_character_216 : decode b_Template_character 216 = .ok (.getfield 47, 3) := by decide +kernel
theorem d_Template_character_219 : decode b_Template_character 219 = .ok (.iload_n 2, 1) := by decide +kernel
theorem d_Template_character_220 : decode b_Template_character 220 = .ok (.invokevirtual 97, 3) := by decide +kernel
theorem d_Template_character_223 : decode b_Template_character 223 = .ok (.bipush 123, 2) := by decide +kernel
theorem d_Template_character_225 : decode b_Template_character 225 = .ok (.if_icmp .ne 13, 3) := by decide +kernel
theorem d_Template_character_228 : decode b_Template_character 228 = .ok (.aload_n 0, 1) := by decide +kernel
theorem d_Template_character_229 : decode b_Template_character 229 = .ok (.bipush 16, 2) := by decide +kernel
theorem d_Template_character_231 : decode b_Template_character 231 = .ok (.iload_n 2, 1) := by decide +kernel
theorem d_Template_character_232 : decode b_Template_character 232 = .ok (.invokevirtual 208, 3) := by decide +kernel
theorem d_Template_character_235 : decode b_Template_character 235 = .ok (.goto 11, 3) := by decide +kernel
theorem d_Template_character_238 : decode b_Template_character 238 = .ok (.aload_n 0, 1) := by decide +kernel
theorem d_Template_character_239 : decode b_Template_character 239 = .ok (.bipush 16, 2) := by decide +kernel
theorem d_Template_character_241 : decode b_Template_character 241 = .ok (.iload_n 2, 1) := by decide +kernel
theorem d_Template_character_242 : decode b_Template_character 242 = .ok (.iconst 2, 1) := by decide +kernel
theorem d_Template_character_243 : decode b_Template_character 243 = .ok (.invokevirtual 192, 3) := by decide +kernel
theorem d_Template_character_246 : decode b_Template_character 246 = .ok (.lreturn, 1) := by decide +kernel
theorem d_Template_character_247 : decode b_Template_character 247 = .ok (.ldc2_w 187, 3) := by decide +kernel
theorem d_Template_character_250 : decode b_Template_character 250 = .ok (.lreturn, 1) := by decide +kernel
abbrev b_Template_digits : ByteArray := prog_17_method_21_code
abbrev y_Template_digits : MethodName := ⟨"ReplacementWriterModel$Template", "digits", "(III)J"⟩
theorem d_Template_digits_0 : decode b_Template_digits 0 = .ok (.lconst 0, 1) := by decide +kernel
theorem d_Template_digits_1 : decode b_Template_digits 1 = .ok (.lstore 4, 2) := by decide +kernel
theorem d_Template_digits_3 : decode b_Template_digits 3 = .ok (.iconst 0, 1) := by decide +kernel
theorem d_Template_digits_4 : decode b_Template_digits 4 = .ok (.istore 6, 2) := by decide +kernel
theorem d_Template_digits_6 : decode b_Template_digits 6 = .ok (.iload 6, 2) := by decide +kernel
theorem d_Template_digits_8 : decode b_Template_digits 8 = .ok (.iload_n 3, 1) := by decide +kernel
theorem d_Template_digits_9 : decode b_Template_digits 9 = .ok (.if_icmp .ge 63, 3) := by decide +kernel
theorem d_Template_digits_12 : decode b_Template_digits 12 = .ok (.aload_n 0, 1) := by decide +kernel
theorem d_Template_digits_13 : decode b_Template_digits 13 = .ok (.aload_n 0, 1) := by decide +kernel
theorem d_Template_digits_14 : decode b_Template_digits 14 = .ok (.getfield 47, 3) := by decide +kernel
theorem d_Template_digits_17 : decode b_Template_digits 17 = .ok (.iload_n 2, 1) := by decide +kernel
theorem d_Template_digits_18 : decode b_Template_digits 18 = .ok (.invokevirtual 97, 3) := by decide +kernel
theorem d_Template_digits_21 : decode b_Template_digits 21 = .ok (.invokestatic 184, 3) := by decide +kernel
theorem d_Template_digits_24 : decode b_Template_digits 24 = .ok (.iload_n 1, 1) := by decide +kernel
theorem d_Template_digits_25 : decode b_Template_digits 25 = .ok (.if_icmp .ge 47, 3) := by decide +kernel
theorem d_Template_digits_28 : decode b_Template_digits 28 = .ok (.iload 6, 2) := by decide +kernel
theorem d_Template_digits_30 : decode b_Template_digits 30 = .ok (.bipush 12, 2) := by decide +kernel
theorem d_Template_digits_32 : decode b_Template_digits 32 = .ok (.if_icmp .ge 24, 3) := by decide +kernel
theorem d_Template_digits_35 : decode b_Template_digits 35 = .ok (.lload 4, 2) := by decide +kernel
theorem d_Template_digits_37 : decode b_Template_digits 37 = .ok (.iload_n 1, 1) := by decide +kernel
theorem d_Template_digits_38 : decode b_Template_digits 38 = .ok (.i2l, 1) := by decide +kernel
theorem d_Template_digits_39 : decode b_Template_digits 39 = .ok (.lmul, 1) := by decide +kernel
theorem d_Template_digits_40 : decode b_Template_digits 40 = .ok (.aload_n 0, 1) := by decide +kernel
theorem d_Template_digits_41 : decode b_Template_digits 41 = .ok (.getfield 23, 3) := by decide +kernel
theorem d_Template_digits_44 : decode b_Template_digits 44 = .ok (.aload_n 0, 1) := by decide +kernel
theorem d_Template_digits_45 : decode b_Template_digits 45 = .ok (.getfield 47, 3) := by decide +kernel
theorem d_Template_digits_48 : decode b_Template_digits 48 = .ok (.iaload, 1) := by decide +kernel
theorem d_Template_digits_49 : decode b_Template_digits 49 = .ok (.invokestatic 184, 3) := by decide +kernel
theorem d_Template_digits_52 : decode b_Template_digits 52 = .ok (.i2l, 1) := by decide +kernel
theorem d_Template_digits_53 : decode b_Template_digits 53 = .ok (.ladd, 1) := by decide +kernel
theorem d_Template_digits_54 : decode b_Template_digits 54 = .ok (.lstore 4, 2) := by decide +kernel
theorem d_Template_digits_56 : decode b_Template_digits 56 = .ok (.aload_n 0, 1) := by decide +kernel
theorem d_Template_digits_57 : decode b_Template_digits 57 = .ok (.dup, 1) := by decide +kernel
theorem d_Template_digits_58 : decode b_Template_digits 58 = .ok (.getfield 47, 3) := by decide +kernel
theorem d_Template_digits_61 : decode b_Template_digits 61 = .ok (.iconst 1, 1) := by decide +kernel
theorem d_Template_digits_62 : decode b_Template_digits 62 = .ok (.iadd, 1) := by decide +kernel
theorem d_Template_digits_63 : decode b_Template_digits 63 = .ok (.putfield 47, 3) := by decide +kernel
theorem d_Template_digits_66 : decode b_Template_digits 66 = .ok (.iinc 6 1, 3) := by decide +kernel
theorem d_Template_digits_69 : decode b_Template_digits 69 = .ok (.goto (-63), 3) := by decide +kernel
theorem d_Template_digits_72 : decode b_Template_digits 72 = .ok (.iload 6, 2) := by decide +kernel
theorem d_Template_digits_74 : decode b_Template_digits 74 = .ok (.ifCond .ne 14, 3) := by decide +kernel
theorem d_Template_digits_77 : decode b_Template_digits 77 = .ok (.iload_n 3, 1) := by decide +kernel
theorem d_Template_digits_78 : decode b_Template_digits 78 = .ok (.iconst 3, 1) := by decide +kernel
theorem d_Template_digits_79 : decode b_Template_digits 79 = .ok (.if_icmp .le 9, 3) := by decide +kernel
theorem d_Template_digits_82 : decode b_Template_digits 82 = .ok (.ldc2_w 187, 3) := by decide +kernel
theorem d_Template_digits_85 : decode b_Template_digits 85 = .ok (.goto 18, 3) := by decide +kernel
theorem d_Template_digits_88 : decode b_Template_digits 88 = .ok (.iload 6, 2) := by decide +kernel
theorem d_Template_digits_90 : decode b_Template_digits 90 = .ok (.bipush 8, 2) := by decide +kernel
theorem d_Template_digits_92 : decode b_Template_digits 92 = .ok (.if_icmp .le 9, 3) := by decide +kernel
theorem d_Template_digits_95 : decode b_Template_digits 95 = .ok (.ldc2_w 189, 3) := by decide +kernel
theorem d_Template_digits_98 : decode b_Template_digits 98 = .ok (.goto 5, 3) := by decide +kernel
theorem d_Template_digits_101 : decode b_Template_digits 101 = .ok (.lload 4, 2) := by decide +kernel
theorem d_Template_digits_103 : decode b_Template_digits 103 = .ok (.lreturn, 1) := by decide +kernel
abbrev b_Template_value : ByteArray := prog_17_method_20_code
abbrev y_Template_value : MethodName := ⟨"ReplacementWriterModel$Template", "value", "(I)I"⟩
theorem d_Template_value_0 : decode b_Template_value 0 = .ok (.iload_n 0, 1) := by decide +kernel
theorem d_Template_value_1 : decode b_Template_value 1 = .ok (.invokestatic 88, 3) := by decide +kernel
theorem d_Template_value_4 : decode b_Template_value 4 = .ok (.ifCond .eq 10, 3) := by decide +kernel
theorem d_Template_value_7 : decode b_Template_value 7 = .ok (.iload_n 0, 1) := by decide +kernel
theorem d_Template_value_8 : decode b_Template_value 8 = .ok (.bipush 48, 2) := by decide +kernel
theorem d_Template_value_10 : decode b_Template_value 10 = .ok (.isub, 1) := by decide +kernel
theorem d_Template_value_11 : decode b_Template_value 11 = .ok (.goto 49, 3) := by decide +kernel
theorem d_Template_value_14 : decode b_Template_value 14 = .ok (.iload_n 0, 1) := by decide +kernel
theorem d_Template_value_15 : decode b_Template_value 15 = .ok (.bipush 97, 2) := by decide +kernel
theorem d_Template_value_17 : decode b_Template_value 17 = .ok (.if_icmp .lt 19, 3) := by decide +kernel
theorem d_Template_value_20 : decode b_Template_value 20 = .ok (.iload_n 0, 1) := by decide +kernel
theorem d_Template_value_21 : decode b_Template_value 21 = .ok (.bipush 102, 2) := by decide +kernel
theorem d_Template_value_23 : decode b_Template_value 23 = .ok (.if_icmp .gt 13, 3) := by decide +kernel
theorem d_Template_value_26 : decode b_Template_value 26 = .ok (.iload_n 0, 1) := by decide +kernel
theorem d_Template_value_27 : decode b_Template_value 27 = .ok (.bipush 97, 2) := by decide +kernel
theorem d_Template_value_29 : decode b_Template_value 29 = .ok (.isub, 1) := by decide +kernel
theorem d_Template_value_30 : decode b_Template_value 30 = .ok (.bipush 10, 2) := by decide +kernel
theorem d_Template_value_32 : decode b_Template_value 32 = .ok (.iadd, 1) := by decide +kernel
theorem d_Template_value_33 : decode b_Template_value 33 = .ok (.goto 27, 3) := by decide +kernel
theorem d_Template_value_36 : decode b_Template_value 36 = .ok (.iload_n 0, 1) := by decide +kernel
theorem d_Template_value_37 : decode b_Template_value 37 = .ok (.bipush 65, 2) := by decide +kernel
theorem d_Template_value_39 : decode b_Template_value 39 = .ok (.if_icmp .lt 19, 3) := by decide +kernel
theorem d_Template_value_42 : decode b_Template_value 42 = .ok (.iload_n 0, 1) := by decide +kernel
theorem d_Template_value_43 : decode b_Template_value 43 = .ok (.bipush 70, 2) := by decide +kernel
theorem d_Template_value_45 : decode b_Template_value 45 = .ok (.if_icmp .gt 13, 3) := by decide +kernel
theorem d_Template_value_48 : decode b_Template_value 48 = .ok (.iload_n 0, 1) := by decide +kernel
theorem d_Template_value_49 : decode b_Template_value 49 = .ok (.bipush 65, 2) := by decide +kernel
theorem d_Template_value_51 : decode b_Template_value 51 = .ok (.isub, 1) := by decide +kernel
theorem d_Template_value_52 : decode b_Template_value 52 = .ok (.bipush 10, 2) := by decide +kernel
theorem d_Template_value_54 : decode b_Template_value 54 = .ok (.iadd, 1) := by decide +kernel
theorem d_Template_value_55 : decode b_Template_value 55 = .ok (.goto 5, 3) := by decide +kernel
theorem d_Template_value_58 : decode b_Template_value 58 = .ok (.bipush 99, 2) := by decide +kernel
theorem d_Template_value_60 : decode b_Template_value 60 = .ok (.ireturn, 1) := by decide +kernel
abbrev b_Template_inBraces : ByteArray := prog_17_method_22_code
abbrev y_Template_inBraces : MethodName := ⟨"ReplacementWriterModel$Template", "inBraces", "(II)J"⟩
theorem d_Template_inBraces_0 : decode b_Template_inBraces 0 = .ok (.aload_n 0, 1) := by decide +kernel
theorem d_Template_inBraces_1 : decode b_Template_inBraces 1 = .ok (.dup, 1) := by decide +kernel
theorem d_Template_inBraces_2 : decode b_Template_inBraces 2 = .ok (.getfield 47, 3) := by decide +kernel
theorem d_Template_inBraces_5 : decode b_Template_inBraces 5 = .ok (.iconst 1, 1) := by decide +kernel
theorem d_Template_inBraces_6 : decode b_Template_inBraces 6 = .ok (.iadd, 1) := by decide +kernel
theorem d_Template_inBraces_7 : decode b_Template_inBraces 7 = .ok (.putfield 47, 3) := by decide +kernel
theorem d_Template_inBraces_10 : decode b_Template_inBraces 10 = .ok (.aload_n 0, 1) := by decide +kernel
theorem d_Template_inBraces_11 : decode b_Template_inBraces 11 = .ok (.iload_n 1, 1) := by decide +kernel
theorem d_Template_inBraces_12 : decode b_Template_inBraces 12 = .ok (.iload_n 2, 1) := by decide +kernel
theorem d_Template_inBraces_13 : decode b_Template_inBraces 13 = .ok (.ldc 191, 2) := by decide +kernel
theorem d_Template_inBraces_15 : decode b_Template_inBraces 15 = .ok (.invokevirtual 192, 3) := by decide +kernel
theorem d_Template_inBraces_18 : decode b_Template_inBraces 18 = .ok (.lstore_n 3, 1) := by decide +kernel
theorem d_Template_inBraces_19 : decode b_Template_inBraces 19 = .ok (.lload_n 3, 1) := by decide +kernel
theorem d_Template_inBraces_20 : decode b_Template_inBraces 20 = .ok (.lconst 0, 1) := by decide +kernel
theorem d_Template_inBraces_21 : decode b_Template_inBraces 21 = .ok (.lcmp, 1) := by decide +kernel
theorem d_Template_inBraces_22 : decode b_Template_inBraces 22 = .ok (.ifCond .lt 17, 3) := by decide +kernel
theorem d_Template_inBraces_25 : decode b_Template_inBraces 25 = .ok (.aload_n 0, 1) := by decide +kernel
theorem d_Template_inBraces_26 : decode b_Template_inBraces 26 = .ok (.aload_n 0, 1) := by decide +kernel
theorem d_Template_inBraces_27 : decode b_Template_inBraces 27 = .ok (.getfield 47, 3) := by decide +kernel
theorem d_Template_inBraces_30 : decode b_Template_inBraces 30 = .ok (.iload_n 2, 1) := by decide +kernel
theorem d_Template_inBraces_31 : decode b_Template_inBraces 31 = .ok (.invokevirtual 97, 3) := by decide +kernel
theorem d_Template_inBraces_34 : decode b_Template_inBraces 34 = .ok (.bipush 125, 2) := by decide +kernel
theorem d_Template_inBraces_36 : decode b_Template_inBraces 36 = .ok (.if_icmp .eq 7, 3) := by decide +kernel
theorem d_Template_inBraces_39 : decode b_Template_inBraces 39 = .ok (.ldc2_w 187, 3) := by decide +kernel
theorem d_Template_inBraces_42 : decode b_Template_inBraces 42 = .ok (.lreturn, 1) := by decide +kernel
theorem d_Template_inBraces_43 : decode b_Template_inBraces 43 = .ok (.aload_n 0, 1) := by decide +kernel
theorem d_Template_inBraces_44 : decode b_Template_inBraces 44 = .ok (.dup, 1) := by decide +kernel
theorem d_Template_inBraces_45 : decode b_Template_inBraces 45 = .ok (.getfield 47, 3) := by decide +kernel
theorem d_Template_inBraces_48 : decode b_Template_inBraces 48 = .ok (.iconst 1, 1) := by decide +kernel
theorem d_Template_inBraces_49 : decode b_Template_inBraces 49 = .ok (.iadd, 1) := by decide +kernel
theorem d_Template_inBraces_50 : decode b_Template_inBraces 50 = .ok (.putfield 47, 3) := by decide +kernel
theorem d_Template_inBraces_53 : decode b_Template_inBraces 53 = .ok (.lload_n 3, 1) := by decide +kernel
theorem d_Template_inBraces_54 : decode b_Template_inBraces 54 = .ok (.lreturn, 1) := by decide +kernel
