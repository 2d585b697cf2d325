/-! Codes and what decodes from them. Laid by mkbase.py. -/
abbrev b_RW_init : ByteArray := prog_1_method_1_code
abbrev y_RW_init : MethodName := ⟨"ReplacementWriter", "<init>", "(I)V"⟩
theorem d_RW_init_0 : decode b_RW_init 0 = .ok (.aload_n 0, 1) := by decide +kernel
theorem d_RW_init_1 : decode b_RW_init 1 = .ok (.invokespecial 1, 3) := by decide +kernel
theorem d_RW_init_4 : decode b_RW_init 4 = .ok (.aload_n 0, 1) := by decide +kernel
theorem d_RW_init_5 : decode b_RW_init 5 = .ok (.new 7, 3) := by decide +kernel
theorem d_RW_init_8 : decode b_RW_init 8 = .ok (.dup, 1) := by decide +kernel
theorem d_RW_init_9 : decode b_RW_init 9 = .ok (.ldc 11, 2) := by decide +kernel
theorem d_RW_init_11 : decode b_RW_init 11 = .ok (.invokespecial 12, 3) := by decide +kernel
theorem d_RW_init_14 : decode b_RW_init 14 = .ok (.putfield 15, 3) := by decide +kernel
theorem d_RW_init_17 : decode b_RW_init 17 = .ok (.aload_n 0, 1) := by decide +kernel
theorem d_RW_init_18 : decode b_RW_init 18 = .ok (.new 19, 3) := by decide +kernel
theorem d_RW_init_21 : decode b_RW_init 21 = .ok (.dup, 1) := by decide +kernel
theorem d_RW_init_22 : decode b_RW_init 22 = .ok (.invokespecial 21, 3) := by decide +kernel
theorem d_RW_init_25 : decode b_RW_init 25 = .ok (.putfield 22, 3) := by decide +kernel
theorem d_RW_init_28 : decode b_RW_init 28 = .ok (.aload_n 0, 1) := by decide +kernel
theorem d_RW_init_29 : decode b_RW_init 29 = .ok (.iconst 0, 1) := by decide +kernel
theorem d_RW_init_30 : decode b_RW_init 30 = .ok (.putfield 26, 3) := by decide +kernel
theorem d_RW_init_33 : decode b_RW_init 33 = .ok (.aload_n 0, 1) := by decide +kernel
theorem d_RW_init_34 : decode b_RW_init 34 = .ok (.iconst (-1), 1) := by decide +kernel
theorem d_RW_init_35 : decode b_RW_init 35 = .ok (.putfield 30, 3) := by decide +kernel
theorem d_RW_init_38 : decode b_RW_init 38 = .ok (.iload_n 1, 1) := by decide +kernel
theorem d_RW_init_39 : decode b_RW_init 39 = .ok (.iconst 1, 1) := by decide +kernel
theorem d_RW_init_40 : decode b_RW_init 40 = .ok (.iand, 1) := by decide +kernel
theorem d_RW_init_41 : decode b_RW_init 41 = .ok (.ifCond .eq 7, 3) := by decide +kernel
theorem d_RW_init_44 : decode b_RW_init 44 = .ok (.iconst 1, 1) := by decide +kernel
theorem d_RW_init_45 : decode b_RW_init 45 = .ok (.goto 4, 3) := by decide +kernel
theorem d_RW_init_48 : decode b_RW_init 48 = .ok (.iconst 0, 1) := by decide +kernel
theorem d_RW_init_49 : decode b_RW_init 49 = .ok (.istore_n 2, 1) := by decide +kernel
theorem d_RW_init_50 : decode b_RW_init 50 = .ok (.aload_n 0, 1) := by decide +kernel
theorem d_RW_init_51 : decode b_RW_init 51 = .ok (.new 33, 3) := by decide +kernel
theorem d_RW_init_54 : decode b_RW_init 54 = .ok (.dup, 1) := by decide +kernel
theorem d_RW_init_55 : decode b_RW_init 55 = .ok (.iload_n 2, 1) := by decide +kernel
theorem d_RW_init_56 : decode b_RW_init 56 = .ok (.invokespecial 35, 3) := by decide +kernel
theorem d_RW_init_59 : decode b_RW_init 59 = .ok (.putfield 38, 3) := by decide +kernel
theorem d_RW_init_62 : decode b_RW_init 62 = .ok (.aload_n 0, 1) := by decide +kernel
theorem d_RW_init_63 : decode b_RW_init 63 = .ok (.new 42, 3) := by decide +kernel
theorem d_RW_init_66 : decode b_RW_init 66 = .ok (.dup, 1) := by decide +kernel
theorem d_RW_init_67 : decode b_RW_init 67 = .ok (.aload_n 0, 1) := by decide +kernel
theorem d_RW_init_68 : decode b_RW_init 68 = .ok (.getfield 38, 3) := by decide +kernel
theorem d_RW_init_71 : decode b_RW_init 71 = .ok (.new 44, 3) := by decide +kernel
theorem d_RW_init_74 : decode b_RW_init 74 = .ok (.dup, 1) := by decide +kernel
theorem d_RW_init_75 : decode b_RW_init 75 = .ok (.iload_n 2, 1) := by decide +kernel
theorem d_RW_init_76 : decode b_RW_init 76 = .ok (.iload_n 1, 1) := by decide +kernel
theorem d_RW_init_77 : decode b_RW_init 77 = .ok (.iconst 2, 1) := by decide +kernel
theorem d_RW_init_78 : decode b_RW_init 78 = .ok (.iand, 1) := by decide +kernel
theorem d_RW_init_79 : decode b_RW_init 79 = .ok (.ifCond .eq 7, 3) := by decide +kernel
theorem d_RW_init_82 : decode b_RW_init 82 = .ok (.iconst 1, 1) := by decide +kernel
theorem d_RW_init_83 : decode b_RW_init 83 = .ok (.goto 4, 3) := by decide +kernel
theorem d_RW_init_86 : decode b_RW_init 86 = .ok (.iconst 0, 1) := by decide +kernel
theorem d_RW_init_87 : decode b_RW_init 87 = .ok (.invokespecial 46, 3) := by decide +kernel
theorem d_RW_init_90 : decode b_RW_init 90 = .ok (.invokespecial 49, 3) := by decide +kernel
theorem d_RW_init_93 : decode b_RW_init 93 = .ok (.putfield 52, 3) := by decide +kernel
theorem d_RW_init_96 : decode b_RW_init 96 = .ok (.aload_n 0, 1) := by decide +kernel
theorem d_RW_init_97 : decode b_RW_init 97 = .ok (.new 56, 3) := by decide +kernel
theorem d_RW_init_100 : decode b_RW_init 100 = .ok (.dup, 1) := by decide +kernel
theorem d_RW_init_101 : decode b_RW_init 101 = .ok (.aload_n 0, 1) := by decide +kernel
theorem d_RW_init_102 : decode b_RW_init 102 = .ok (.getfield 15, 3) := by decide +kernel
theorem d_RW_init_105 : decode b_RW_init 105 = .ok (.aload_n 0, 1) := by decide +kernel
theorem d_RW_init_106 : decode b_RW_init 106 = .ok (.getfield 22, 3) := by decide +kernel
theorem d_RW_init_109 : decode b_RW_init 109 = .ok (.aload_n 0, 1) := by decide +kernel
theorem d_RW_init_110 : decode b_RW_init 110 = .ok (.getfield 52, 3) := by decide +kernel
theorem d_RW_init_113 : decode b_RW_init 113 = .ok (.aload_n 0, 1) := by decide +kernel
theorem d_RW_init_114 : decode b_RW_init 114 = .ok (.getfield 38, 3) := by decide +kernel
theorem d_RW_init_117 : decode b_RW_init 117 = .ok (.invokespecial 58, 3) := by decide +kernel
theorem d_RW_init_120 : decode b_RW_init 120 = .ok (.putfield 61, 3) := by decide +kernel
theorem d_RW_init_123 : decode b_RW_init 123 = .ok (.return_, 1) := by decide +kernel
abbrev b_Writing_init : ByteArray := prog_11_method_1_code
abbrev y_Writing_init : MethodName := ⟨"ReplacementWriter$Writing", "<init>", "(LReplacementWriter$Row;LReplacementWriter$Groups;LReplacementWriter$Output;LReplacementWriter$Encoding;)V"⟩
theorem d_Writing_init_0 : decode b_Writing_init 0 = .ok (.aload_n 0, 1) := by decide +kernel
theorem d_Writing_init_1 : decode b_Writing_init 1 = .ok (.invokespecial 3, 3) := by decide +kernel
theorem d_Writing_init_4 : decode b_Writing_init 4 = .ok (.aload_n 0, 1) := by decide +kernel
theorem d_Writing_init_5 : decode b_Writing_init 5 = .ok (.iconst 0, 1) := by decide +kernel
theorem d_Writing_init_6 : decode b_Writing_init 6 = .ok (.putfield 9, 3) := by decide +kernel
theorem d_Writing_init_9 : decode b_Writing_init 9 = .ok (.aload_n 0, 1) := by decide +kernel
theorem d_Writing_init_10 : decode b_Writing_init 10 = .ok (.iconst 0, 1) := by decide +kernel
theorem d_Writing_init_11 : decode b_Writing_init 11 = .ok (.putfield 15, 3) := by decide +kernel
theorem d_Writing_init_14 : decode b_Writing_init 14 = .ok (.aload_n 0, 1) := by decide +kernel
theorem d_Writing_init_15 : decode b_Writing_init 15 = .ok (.iconst 0, 1) := by decide +kernel
theorem d_Writing_init_16 : decode b_Writing_init 16 = .ok (.putfield 18, 3) := by decide +kernel
theorem d_Writing_init_19 : decode b_Writing_init 19 = .ok (.aload_n 0, 1) := by decide +kernel
theorem d_Writing_init_20 : decode b_Writing_init 20 = .ok (.iconst 0, 1) := by decide +kernel
theorem d_Writing_init_21 : decode b_Writing_init 21 = .ok (.putfield 21, 3) := by decide +kernel
theorem d_Writing_init_24 : decode b_Writing_init 24 = .ok (.aload_n 0, 1) := by decide +kernel
theorem d_Writing_init_25 : decode b_Writing_init 25 = .ok (.iconst (-1), 1) := by decide +kernel
theorem d_Writing_init_26 : decode b_Writing_init 26 = .ok (.putfield 25, 3) := by decide +kernel
theorem d_Writing_init_29 : decode b_Writing_init 29 = .ok (.aload_n 0, 1) := by decide +kernel
theorem d_Writing_init_30 : decode b_Writing_init 30 = .ok (.aload_n 1, 1) := by decide +kernel
theorem d_Writing_init_31 : decode b_Writing_init 31 = .ok (.putfield 28, 3) := by decide +kernel
theorem d_Writing_init_34 : decode b_Writing_init 34 = .ok (.aload_n 0, 1) := by decide +kernel
theorem d_Writing_init_35 : decode b_Writing_init 35 = .ok (.aload_n 2, 1) := by decide +kernel
theorem d_Writing_init_36 : decode b_Writing_init 36 = .ok (.putfield 32, 3) := by decide +kernel
theorem d_Writing_init_39 : decode b_Writing_init 39 = .ok (.aload_n 0, 1) := by decide +kernel
theorem d_Writing_init_40 : decode b_Writing_init 40 = .ok (.aload_n 3, 1) := by decide +kernel
theorem d_Writing_init_41 : decode b_Writing_init 41 = .ok (.putfield 36, 3) := by decide +kernel
theorem d_Writing_init_44 : decode b_Writing_init 44 = .ok (.aload_n 0, 1) := by decide +kernel
theorem d_Writing_init_45 : decode b_Writing_init 45 = .ok (.aload 4, 2) := by decide +kernel
theorem d_Writing_init_47 : decode b_Writing_init 47 = .ok (.putfield 40, 3) := by decide +kernel
theorem d_Writing_init_50 : decode b_Writing_init 50 = .ok (.aload_n 0, 1) := by decide +kernel
theorem d_Writing_init_51 : decode b_Writing_init 51 = .ok (.new 44, 3) := by decide +kernel
theorem d_Writing_init_54 : decode b_Writing_init 54 = .ok (.dup, 1) := by decide +kernel
theorem d_Writing_init_55 : decode b_Writing_init 55 = .ok (.aload_n 1, 1) := by decide +kernel
theorem d_Writing_init_56 : decode b_Writing_init 56 = .ok (.aload 4, 2) := by decide +kernel
theorem d_Writing_init_58 : decode b_Writing_init 58 = .ok (.invokespecial 46, 3) := by decide +kernel
theorem d_Writing_init_61 : decode b_Writing_init 61 = .ok (.putfield 49, 3) := by decide +kernel
theorem d_Writing_init_64 : decode b_Writing_init 64 = .ok (.return_, 1) := by decide +kernel
abbrev b_Escape_init : ByteArray := prog_5_method_1_code
abbrev y_Escape_init : MethodName := ⟨"ReplacementWriter$Escape", "<init>", "(LReplacementWriter$Row;LReplacementWriter$Encoding;)V"⟩
theorem d_Escape_init_0 : decode b_Escape_init 0 = .ok (.aload_n 0, 1) := by decide +kernel
theorem d_Escape_init_1 : decode b_Escape_init 1 = .ok (.invokespecial 1, 3) := by decide +kernel
theorem d_Escape_init_4 : decode b_Escape_init 4 = .ok (.aload_n 0, 1) := by decide +kernel
theorem d_Escape_init_5 : decode b_Escape_init 5 = .ok (.iconst 0, 1) := by decide +kernel
theorem d_Escape_init_6 : decode b_Escape_init 6 = .ok (.putfield 7, 3) := by decide +kernel
theorem d_Escape_init_9 : decode b_Escape_init 9 = .ok (.aload_n 0, 1) := by decide +kernel
theorem d_Escape_init_10 : decode b_Escape_init 10 = .ok (.iconst 0, 1) := by decide +kernel
theorem d_Escape_init_11 : decode b_Escape_init 11 = .ok (.putfield 13, 3) := by decide +kernel
theorem d_Escape_init_14 : decode b_Escape_init 14 = .ok (.aload_n 0, 1) := by decide +kernel
theorem d_Escape_init_15 : decode b_Escape_init 15 = .ok (.aload_n 1, 1) := by decide +kernel
theorem d_Escape_init_16 : decode b_Escape_init 16 = .ok (.putfield 16, 3) := by decide +kernel
theorem d_Escape_init_19 : decode b_Escape_init 19 = .ok (.aload_n 0, 1) := by decide +kernel
theorem d_Escape_init_20 : decode b_Escape_init 20 = .ok (.aload_n 2, 1) := by decide +kernel
theorem d_Escape_init_21 : decode b_Escape_init 21 = .ok (.putfield 20, 3) := by decide +kernel
theorem d_Escape_init_24 : decode b_Escape_init 24 = .ok (.return_, 1) := by decide +kernel
abbrev b_RW_count : ByteArray := prog_1_method_14_code
abbrev y_RW_count : MethodName := ⟨"ReplacementWriter", "count", "(I)I"⟩
theorem d_RW_count_0 : decode b_RW_count 0 = .ok (.iload_n 1, 1) := by decide +kernel
theorem d_RW_count_1 : decode b_RW_count 1 = .ok (.tableswitch 66 0 3 #[31, 39, 50, 58], 31) := by decide +kernel
theorem d_RW_count_32 : decode b_RW_count 32 = .ok (.aload_n 0, 1) := by decide +kernel
theorem d_RW_count_33 : decode b_RW_count 33 = .ok (.getfield 15, 3) := by decide +kernel
theorem d_RW_count_36 : decode b_RW_count 36 = .ok (.invokevirtual 65, 3) := by decide +kernel
theorem d_RW_count_39 : decode b_RW_count 39 = .ok (.ireturn, 1) := by decide +kernel
theorem d_RW_count_40 : decode b_RW_count 40 = .ok (.aload_n 0, 1) := by decide +kernel
theorem d_RW_count_41 : decode b_RW_count 41 = .ok (.getfield 52, 3) := by decide +kernel
theorem d_RW_count_44 : decode b_RW_count 44 = .ok (.invokevirtual 146, 3) := by decide +kernel
theorem d_RW_count_47 : decode b_RW_count 47 = .ok (.invokevirtual 65, 3) := by decide +kernel
theorem d_RW_count_50 : decode b_RW_count 50 = .ok (.ireturn, 1) := by decide +kernel
theorem d_RW_count_51 : decode b_RW_count 51 = .ok (.aload_n 0, 1) := by decide +kernel
theorem d_RW_count_52 : decode b_RW_count 52 = .ok (.getfield 22, 3) := by decide +kernel
theorem d_RW_count_55 : decode b_RW_count 55 = .ok (.invokevirtual 157, 3) := by decide +kernel
theorem d_RW_count_58 : decode b_RW_count 58 = .ok (.ireturn, 1) := by decide +kernel
theorem d_RW_count_59 : decode b_RW_count 59 = .ok (.aload_n 0, 1) := by decide +kernel
theorem d_RW_count_60 : decode b_RW_count 60 = .ok (.getfield 22, 3) := by decide +kernel
theorem d_RW_count_63 : decode b_RW_count 63 = .ok (.invokevirtual 115, 3) := by decide +kernel
theorem d_RW_count_66 : decode b_RW_count 66 = .ok (.ireturn, 1) := by decide +kernel
theorem d_RW_count_67 : decode b_RW_count 67 = .ok (.iconst (-1), 1) := by decide +kernel
theorem d_RW_count_68 : decode b_RW_count 68 = .ok (.ireturn, 1) := by decide +kernel
abbrev b_RW_feed : ByteArray := prog_1_method_2_code
abbrev y_RW_feed : MethodName := ⟨"ReplacementWriter", "feed", "(IIIII)I"⟩
theorem d_RW_feed_0 : decode b_RW_feed 0 = .ok (.aload_n 0, 1) := by decide +kernel
theorem d_RW_feed_1 : decode b_RW_feed 1 = .ok (.getfield 15, 3) := by decide +kernel
theorem d_RW_feed_4 : decode b_RW_feed 4 = .ok (.invokevirtual 65, 3) := by decide +kernel
theorem d_RW_feed_7 : decode b_RW_feed 7 = .ok (.bipush 20, 2) := by decide +kernel
theorem d_RW_feed_9 : decode b_RW_feed 9 = .ok (.iadd, 1) := by decide +kernel
theorem d_RW_feed_10 : decode b_RW_feed 10 = .ok (.ldc 11, 2) := by decide +kernel
theorem d_RW_feed_12 : decode b_RW_feed 12 = .ok (.if_icmp .le 11, 3) := by decide +kernel
theorem d_RW_feed_15 : decode b_RW_feed 15 = .ok (.new 69, 3) := by decide +kernel
theorem d_RW_feed_18 : decode b_RW_feed 18 = .ok (.dup, 1) := by decide +kernel
theorem d_RW_feed_19 : decode b_RW_feed 19 = .ok (.invokespecial 71, 3) := by decide +kernel
theorem d_RW_feed_22 : decode b_RW_feed 22 = .ok (.athrow, 1) := by decide +kernel
theorem d_RW_feed_23 : decode b_RW_feed 23 = .ok (.aload_n 0, 1) := by decide +kernel
theorem d_RW_feed_24 : decode b_RW_feed 24 = .ok (.iload_n 1, 1) := by decide +kernel
theorem d_RW_feed_25 : decode b_RW_feed 25 = .ok (.invokevirtual 72, 3) := by decide +kernel
theorem d_RW_feed_28 : decode b_RW_feed 28 = .ok (.aload_n 0, 1) := by decide +kernel
theorem d_RW_feed_29 : decode b_RW_feed 29 = .ok (.iload_n 2, 1) := by decide +kernel
theorem d_RW_feed_30 : decode b_RW_feed 30 = .ok (.invokevirtual 72, 3) := by decide +kernel
theorem d_RW_feed_33 : decode b_RW_feed 33 = .ok (.aload_n 0, 1) := by decide +kernel
theorem d_RW_feed_34 : decode b_RW_feed 34 = .ok (.iload_n 3, 1) := by decide +kernel
theorem d_RW_feed_35 : decode b_RW_feed 35 = .ok (.invokevirtual 72, 3) := by decide +kernel
theorem d_RW_feed_38 : decode b_RW_feed 38 = .ok (.aload_n 0, 1) := by decide +kernel
theorem d_RW_feed_39 : decode b_RW_feed 39 = .ok (.iload 4, 2) := by decide +kernel
theorem d_RW_feed_41 : decode b_RW_feed 41 = .ok (.invokevirtual 72, 3) := by decide +kernel
theorem d_RW_feed_44 : decode b_RW_feed 44 = .ok (.aload_n 0, 1) := by decide +kernel
theorem d_RW_feed_45 : decode b_RW_feed 45 = .ok (.iload 5, 2) := by decide +kernel
theorem d_RW_feed_47 : decode b_RW_feed 47 = .ok (.invokevirtual 72, 3) := by decide +kernel
theorem d_RW_feed_50 : decode b_RW_feed 50 = .ok (.aload_n 0, 1) := by decide +kernel
theorem d_RW_feed_51 : decode b_RW_feed 51 = .ok (.getfield 15, 3) := by decide +kernel
theorem d_RW_feed_54 : decode b_RW_feed 54 = .ok (.invokevirtual 65, 3) := by decide +kernel
theorem d_RW_feed_57 : decode b_RW_feed 57 = .ok (.ireturn, 1) := by decide +kernel
abbrev b_RW_addFourBytes : ByteArray := prog_1_method_3_code
abbrev y_RW_addFourBytes : MethodName := ⟨"ReplacementWriter", "addFourBytes", "(I)V"⟩
theorem d_RW_addFourBytes_0 : decode b_RW_addFourBytes 0 = .ok (.aload_n 0, 1) := by decide +kernel
theorem d_RW_addFourBytes_1 : decode b_RW_addFourBytes 1 = .ok (.getfield 15, 3) := by decide +kernel
theorem d_RW_addFourBytes_4 : decode b_RW_addFourBytes 4 = .ok (.iload_n 1, 1) := by decide +kernel
theorem d_RW_addFourBytes_5 : decode b_RW_addFourBytes 5 = .ok (.bipush 24, 2) := by decide +kernel
theorem d_RW_addFourBytes_7 : decode b_RW_addFourBytes 7 = .ok (.iushr, 1) := by decide +kernel
theorem d_RW_addFourBytes_8 : decode b_RW_addFourBytes 8 = .ok (.invokevirtual 75, 3) := by decide +kernel
theorem d_RW_addFourBytes_11 : decode b_RW_addFourBytes 11 = .ok (.aload_n 0, 1) := by decide +kernel
theorem d_RW_addFourBytes_12 : decode b_RW_addFourBytes 12 = .ok (.getfield 15, 3) := by decide +kernel
theorem d_RW_addFourBytes_15 : decode b_RW_addFourBytes 15 = .ok (.iload_n 1, 1) := by decide +kernel
theorem d_RW_addFourBytes_16 : decode b_RW_addFourBytes 16 = .ok (.bipush 16, 2) := by decide +kernel
theorem d_RW_addFourBytes_18 : decode b_RW_addFourBytes 18 = .ok (.iushr, 1) := by decide +kernel
theorem d_RW_addFourBytes_19 : decode b_RW_addFourBytes 19 = .ok (.invokevirtual 75, 3) := by decide +kernel
theorem d_RW_addFourBytes_22 : decode b_RW_addFourBytes 22 = .ok (.aload_n 0, 1) := by decide +kernel
theorem d_RW_addFourBytes_23 : decode b_RW_addFourBytes 23 = .ok (.getfield 15, 3) := by decide +kernel
theorem d_RW_addFourBytes_26 : decode b_RW_addFourBytes 26 = .ok (.iload_n 1, 1) := by decide +kernel
theorem d_RW_addFourBytes_27 : decode b_RW_addFourBytes 27 = .ok (.bipush 8, 2) := by decide +kernel
theorem d_RW_addFourBytes_29 : decode b_RW_addFourBytes 29 = .ok (.iushr, 1) := by decide +kernel
theorem d_RW_addFourBytes_30 : decode b_RW_addFourBytes 30 = .ok (.invokevirtual 75, 3) := by decide +kernel
theorem d_RW_addFourBytes_33 : decode b_RW_addFourBytes 33 = .ok (.aload_n 0, 1) := by decide +kernel
theorem d_RW_addFourBytes_34 : decode b_RW_addFourBytes 34 = .ok (.getfield 15, 3) := by decide +kernel
theorem d_RW_addFourBytes_37 : decode b_RW_addFourBytes 37 = .ok (.iload_n 1, 1) := by decide +kernel
theorem d_RW_addFourBytes_38 : decode b_RW_addFourBytes 38 = .ok (.invokevirtual 75, 3) := by decide +kernel
theorem d_RW_addFourBytes_41 : decode b_RW_addFourBytes 41 = .ok (.return_, 1) := by decide +kernel
abbrev b_RW_end : ByteArray := prog_1_method_4_code
abbrev y_RW_end : MethodName := ⟨"ReplacementWriter", "end", "(I)I"⟩
theorem d_RW_end_0 : decode b_RW_end 0 = .ok (.iload_n 1, 1) := by decide +kernel
theorem d_RW_end_1 : decode b_RW_end 1 = .ok (.ifCond .lt 14, 3) := by decide +kernel
theorem d_RW_end_4 : decode b_RW_end 4 = .ok (.iload_n 1, 1) := by decide +kernel
theorem d_RW_end_5 : decode b_RW_end 5 = .ok (.aload_n 0, 1) := by decide +kernel
theorem d_RW_end_6 : decode b_RW_end 6 = .ok (.getfield 15, 3) := by decide +kernel
theorem d_RW_end_9 : decode b_RW_end 9 = .ok (.invokevirtual 65, 3) := by decide +kernel
theorem d_RW_end_12 : decode b_RW_end 12 = .ok (.if_icmp .le 11, 3) := by decide +kernel
theorem d_RW_end_15 : decode b_RW_end 15 = .ok (.new 78, 3) := by decide +kernel
theorem d_RW_end_18 : decode b_RW_end 18 = .ok (.dup, 1) := by decide +kernel
theorem d_RW_end_19 : decode b_RW_end 19 = .ok (.invokespecial 80, 3) := by decide +kernel
theorem d_RW_end_22 : decode b_RW_end 22 = .ok (.athrow, 1) := by decide +kernel
theorem d_RW_end_23 : decode b_RW_end 23 = .ok (.aload_n 0, 1) := by decide +kernel
theorem d_RW_end_24 : decode b_RW_end 24 = .ok (.getfield 15, 3) := by decide +kernel
theorem d_RW_end_27 : decode b_RW_end 27 = .ok (.iload_n 1, 1) := by decide +kernel
theorem d_RW_end_28 : decode b_RW_end 28 = .ok (.invokevirtual 81, 3) := by decide +kernel
theorem d_RW_end_31 : decode b_RW_end 31 = .ok (.iload_n 1, 1) := by decide +kernel
theorem d_RW_end_32 : decode b_RW_end 32 = .ok (.ireturn, 1) := by decide +kernel
abbrev b_RW_groups : ByteArray := prog_1_method_5_code
abbrev y_RW_groups : MethodName := ⟨"ReplacementWriter", "groups", "(I)V"⟩
theorem d_RW_groups_0 : decode b_RW_groups 0 = .ok (.iload_n 1, 1) := by decide +kernel
theorem d_RW_groups_1 : decode b_RW_groups 1 = .ok (.ifCond .lt 9, 3) := by decide +kernel
theorem d_RW_groups_4 : decode b_RW_groups 4 = .ok (.iload_n 1, 1) := by decide +kernel
theorem d_RW_groups_5 : decode b_RW_groups 5 = .ok (.bipush 99, 2) := by decide +kernel
theorem d_RW_groups_7 : decode b_RW_groups 7 = .ok (.if_icmp .le 11, 3) := by decide +kernel
theorem d_RW_groups_10 : decode b_RW_groups 10 = .ok (.new 78, 3) := by decide +kernel
theorem d_RW_groups_13 : decode b_RW_groups 13 = .ok (.dup, 1) := by decide +kernel
theorem d_RW_groups_14 : decode b_RW_groups 14 = .ok (.invokespecial 80, 3) := by decide +kernel
theorem d_RW_groups_17 : decode b_RW_groups 17 = .ok (.athrow, 1) := by decide +kernel
theorem d_RW_groups_18 : decode b_RW_groups 18 = .ok (.aload_n 0, 1) := by decide +kernel
theorem d_RW_groups_19 : decode b_RW_groups 19 = .ok (.getfield 22, 3) := by decide +kernel
theorem d_RW_groups_22 : decode b_RW_groups 22 = .ok (.iload_n 1, 1) := by decide +kernel
theorem d_RW_groups_23 : decode b_RW_groups 23 = .ok (.invokevirtual 84, 3) := by decide +kernel
theorem d_RW_groups_26 : decode b_RW_groups 26 = .ok (.return_, 1) := by decide +kernel
abbrev b_RW_set : ByteArray := prog_1_method_6_code
abbrev y_RW_set : MethodName := ⟨"ReplacementWriter", "set", "(I)I"⟩
theorem d_RW_set_0 : decode b_RW_set 0 = .ok (.aload_n 0, 1) := by decide +kernel
theorem d_RW_set_1 : decode b_RW_set 1 = .ok (.getfield 22, 3) := by decide +kernel
theorem d_RW_set_4 : decode b_RW_set 4 = .ok (.iload_n 1, 1) := by decide +kernel
theorem d_RW_set_5 : decode b_RW_set 5 = .ok (.invokevirtual 87, 3) := by decide +kernel
theorem d_RW_set_8 : decode b_RW_set 8 = .ok (.ifCond .ne 11, 3) := by decide +kernel
theorem d_RW_set_11 : decode b_RW_set 11 = .ok (.new 78, 3) := by decide +kernel
theorem d_RW_set_14 : decode b_RW_set 14 = .ok (.dup, 1) := by decide +kernel
theorem d_RW_set_15 : decode b_RW_set 15 = .ok (.invokespecial 80, 3) := by decide +kernel
theorem d_RW_set_18 : decode b_RW_set 18 = .ok (.athrow, 1) := by decide +kernel
theorem d_RW_set_19 : decode b_RW_set 19 = .ok (.aload_n 0, 1) := by decide +kernel
theorem d_RW_set_20 : decode b_RW_set 20 = .ok (.getfield 38, 3) := by decide +kernel
theorem d_RW_set_23 : decode b_RW_set 23 = .ok (.aload_n 0, 1) := by decide +kernel
theorem d_RW_set_24 : decode b_RW_set 24 = .ok (.getfield 15, 3) := by decide +kernel
theorem d_RW_set_27 : decode b_RW_set 27 = .ok (.invokevirtual 91, 3) := by decide +kernel
theorem d_RW_set_30 : decode b_RW_set 30 = .ok (.ifCond .lt 19, 3) := by decide +kernel
theorem d_RW_set_33 : decode b_RW_set 33 = .ok (.aload_n 0, 1) := by decide +kernel
theorem d_RW_set_34 : decode b_RW_set 34 = .ok (.getfield 15, 3) := by decide +kernel
theorem d_RW_set_37 : decode b_RW_set 37 = .ok (.iconst 0, 1) := by decide +kernel
theorem d_RW_set_38 : decode b_RW_set 38 = .ok (.invokevirtual 81, 3) := by decide +kernel
theorem d_RW_set_41 : decode b_RW_set 41 = .ok (.new 95, 3) := by decide +kernel
theorem d_RW_set_44 : decode b_RW_set 44 = .ok (.dup, 1) := by decide +kernel
theorem d_RW_set_45 : decode b_RW_set 45 = .ok (.invokespecial 97, 3) := by decide +kernel
theorem d_RW_set_48 : decode b_RW_set 48 = .ok (.athrow, 1) := by decide +kernel
theorem d_RW_set_49 : decode b_RW_set 49 = .ok (.aload_n 0, 1) := by decide +kernel
theorem d_RW_set_50 : decode b_RW_set 50 = .ok (.getfield 22, 3) := by decide +kernel
theorem d_RW_set_53 : decode b_RW_set 53 = .ok (.iload_n 1, 1) := by decide +kernel
theorem d_RW_set_54 : decode b_RW_set 54 = .ok (.aload_n 0, 1) := by decide +kernel
theorem d_RW_set_55 : decode b_RW_set 55 = .ok (.getfield 15, 3) := by decide +kernel
theorem d_RW_set_58 : decode b_RW_set 58 = .ok (.invokevirtual 98, 3) := by decide +kernel
theorem d_RW_set_61 : decode b_RW_set 61 = .ok (.aload_n 0, 1) := by decide +kernel
theorem d_RW_set_62 : decode b_RW_set 62 = .ok (.invokevirtual 102, 3) := by decide +kernel
theorem d_RW_set_65 : decode b_RW_set 65 = .ok (.ireturn, 1) := by decide +kernel
abbrev b_RW_takeText : ByteArray := prog_1_method_10_code
abbrev y_RW_takeText : MethodName := ⟨"ReplacementWriter", "takeText", "()I"⟩
theorem d_RW_takeText_0 : decode b_RW_takeText 0 = .ok (.aload_n 0, 1) := by decide +kernel
theorem d_RW_takeText_1 : decode b_RW_takeText 1 = .ok (.getfield 38, 3) := by decide +kernel
theorem d_RW_takeText_4 : decode b_RW_takeText 4 = .ok (.aload_n 0, 1) := by decide +kernel
theorem d_RW_takeText_5 : decode b_RW_takeText 5 = .ok (.getfield 15, 3) := by decide +kernel
theorem d_RW_takeText_8 : decode b_RW_takeText 8 = .ok (.invokevirtual 122, 3) := by decide +kernel
theorem d_RW_takeText_11 : decode b_RW_takeText 11 = .ok (.istore_n 1, 1) := by decide +kernel
theorem d_RW_takeText_12 : decode b_RW_takeText 12 = .ok (.aload_n 0, 1) := by decide +kernel
theorem d_RW_takeText_13 : decode b_RW_takeText 13 = .ok (.getfield 15, 3) := by decide +kernel
theorem d_RW_takeText_16 : decode b_RW_takeText 16 = .ok (.iconst 0, 1) := by decide +kernel
theorem d_RW_takeText_17 : decode b_RW_takeText 17 = .ok (.invokevirtual 81, 3) := by decide +kernel
theorem d_RW_takeText_20 : decode b_RW_takeText 20 = .ok (.iload_n 1, 1) := by decide +kernel
theorem d_RW_takeText_21 : decode b_RW_takeText 21 = .ok (.ireturn, 1) := by decide +kernel
abbrev b_RW_unset : ByteArray := prog_1_method_7_code
abbrev y_RW_unset : MethodName := ⟨"ReplacementWriter", "unset", "(I)V"⟩
theorem d_RW_unset_0 : decode b_RW_unset 0 = .ok (.aload_n 0, 1) := by decide +kernel
theorem d_RW_unset_1 : decode b_RW_unset 1 = .ok (.getfield 22, 3) := by decide +kernel
theorem d_RW_unset_4 : decode b_RW_unset 4 = .ok (.iload_n 1, 1) := by decide +kernel
theorem d_RW_unset_5 : decode b_RW_unset 5 = .ok (.invokevirtual 87, 3) := by decide +kernel
theorem d_RW_unset_8 : decode b_RW_unset 8 = .ok (.ifCond .ne 11, 3) := by decide +kernel
theorem d_RW_unset_11 : decode b_RW_unset 11 = .ok (.new 78, 3) := by decide +kernel
theorem d_RW_unset_14 : decode b_RW_unset 14 = .ok (.dup, 1) := by decide +kernel
theorem d_RW_unset_15 : decode b_RW_unset 15 = .ok (.invokespecial 80, 3) := by decide +kernel
theorem d_RW_unset_18 : decode b_RW_unset 18 = .ok (.athrow, 1) := by decide +kernel
theorem d_RW_unset_19 : decode b_RW_unset 19 = .ok (.aload_n 0, 1) := by decide +kernel
theorem d_RW_unset_20 : decode b_RW_unset 20 = .ok (.getfield 22, 3) := by decide +kernel
theorem d_RW_unset_23 : decode b_RW_unset 23 = .ok (.iload_n 1, 1) := by decide +kernel
theorem d_RW_unset_24 : decode b_RW_unset 24 = .ok (.invokevirtual 105, 3) := by decide +kernel
theorem d_RW_unset_27 : decode b_RW_unset 27 = .ok (.return_, 1) := by decide +kernel
abbrev b_RW_name : ByteArray := prog_1_method_8_code
abbrev y_RW_name : MethodName := ⟨"ReplacementWriter", "name", "(I)I"⟩
theorem d_RW_name_0 : decode b_RW_name 0 = .ok (.iload_n 1, 1) := by decide +kernel
theorem d_RW_name_1 : decode b_RW_name 1 = .ok (.iconst 1, 1) := by decide +kernel
theorem d_RW_name_2 : decode b_RW_name 2 = .ok (.if_icmp .lt 14, 3) := by decide +kernel
theorem d_RW_name_5 : decode b_RW_name 5 = .ok (.aload_n 0, 1) := by decide +kernel
theorem d_RW_name_6 : decode b_RW_name 6 = .ok (.getfield 22, 3) := by decide +kernel
theorem d_RW_name_9 : decode b_RW_name 9 = .ok (.iload_n 1, 1) := by decide +kernel
theorem d_RW_name_10 : decode b_RW_name 10 = .ok (.invokevirtual 87, 3) := by decide +kernel
theorem d_RW_name_13 : decode b_RW_name 13 = .ok (.ifCond .ne 11, 3) := by decide +kernel
theorem d_RW_name_16 : decode b_RW_name 16 = .ok (.new 78, 3) := by decide +kernel
theorem d_RW_name_19 : decode b_RW_name 19 = .ok (.dup, 1) := by decide +kernel
theorem d_RW_name_20 : decode b_RW_name 20 = .ok (.invokespecial 80, 3) := by decide +kernel
theorem d_RW_name_23 : decode b_RW_name 23 = .ok (.athrow, 1) := by decide +kernel
theorem d_RW_name_24 : decode b_RW_name 24 = .ok (.aload_n 0, 1) := by decide +kernel
theorem d_RW_name_25 : decode b_RW_name 25 = .ok (.getfield 15, 3) := by decide +kernel
theorem d_RW_name_28 : decode b_RW_name 28 = .ok (.invokestatic 108, 3) := by decide +kernel
theorem d_RW_name_31 : decode b_RW_name 31 = .ok (.ifCond .ne 19, 3) := by decide +kernel
theorem d_RW_name_34 : decode b_RW_name 34 = .ok (.aload_n 0, 1) := by decide +kernel
theorem d_RW_name_35 : decode b_RW_name 35 = .ok (.getfield 15, 3) := by decide +kernel
theorem d_RW_name_38 : decode b_RW_name 38 = .ok (.iconst 0, 1) := by decide +kernel
theorem d_RW_name_39 : decode b_RW_name 39 = .ok (.invokevirtual 81, 3) := by decide +kernel
theorem d_RW_name_42 : decode b_RW_name 42 = .ok (.new 95, 3) := by decide +kernel
theorem d_RW_name_45 : decode b_RW_name 45 = .ok (.dup, 1) := by decide +kernel
theorem d_RW_name_46 : decode b_RW_name 46 = .ok (.invokespecial 97, 3) := by decide +kernel
theorem d_RW_name_49 : decode b_RW_name 49 = .ok (.athrow, 1) := by decide +kernel
theorem d_RW_name_50 : decode b_RW_name 50 = .ok (.aload_n 0, 1) := by decide +kernel
theorem d_RW_name_51 : decode b_RW_name 51 = .ok (.getfield 22, 3) := by decide +kernel
theorem d_RW_name_54 : decode b_RW_name 54 = .ok (.iload_n 1, 1) := by decide +kernel
theorem d_RW_name_55 : decode b_RW_name 55 = .ok (.aload_n 0, 1) := by decide +kernel
theorem d_RW_name_56 : decode b_RW_name 56 = .ok (.getfield 15, 3) := by decide +kernel
theorem d_RW_name_59 : decode b_RW_name 59 = .ok (.invokevirtual 112, 3) := by decide +kernel
theorem d_RW_name_62 : decode b_RW_name 62 = .ok (.aload_n 0, 1) := by decide +kernel
theorem d_RW_name_63 : decode b_RW_name 63 = .ok (.getfield 15, 3) := by decide +kernel
theorem d_RW_name_66 : decode b_RW_name 66 = .ok (.iconst 0, 1) := by decide +kernel
theorem d_RW_name_67 : decode b_RW_name 67 = .ok (.invokevirtual 81, 3) := by decide +kernel
theorem d_RW_name_70 : decode b_RW_name 70 = .ok (.aload_n 0, 1) := by decide +kernel
theorem d_RW_name_71 : decode b_RW_name 71 = .ok (.getfield 22, 3) := by decide +kernel
theorem d_RW_name_74 : decode b_RW_name 74 = .ok (.invokevirtual 115, 3) := by decide +kernel
theorem d_RW_name_77 : decode b_RW_name 77 = .ok (.ireturn, 1) := by decide +kernel
abbrev b_RW_mark : ByteArray := prog_1_method_9_code
abbrev y_RW_mark : MethodName := ⟨"ReplacementWriter", "mark", "()I"⟩
theorem d_RW_mark_0 : decode b_RW_mark 0 = .ok (.aload_n 0, 1) := by decide +kernel
theorem d_RW_mark_1 : decode b_RW_mark 1 = .ok (.getfield 38, 3) := by decide +kernel
theorem d_RW_mark_4 : decode b_RW_mark 4 = .ok (.aload_n 0, 1) := by decide +kernel
theorem d_RW_mark_5 : decode b_RW_mark 5 = .ok (.getfield 15, 3) := by decide +kernel
theorem d_RW_mark_8 : decode b_RW_mark 8 = .ok (.invokevirtual 91, 3) := by decide +kernel
theorem d_RW_mark_11 : decode b_RW_mark 11 = .ok (.ifCond .lt 19, 3) := by decide +kernel
theorem d_RW_mark_14 : decode b_RW_mark 14 = .ok (.aload_n 0, 1) := by decide +kernel
theorem d_RW_mark_15 : decode b_RW_mark 15 = .ok (.getfield 15, 3) := by decide +kernel
theorem d_RW_mark_18 : decode b_RW_mark 18 = .ok (.iconst 0, 1) := by decide +kernel
theorem d_RW_mark_19 : decode b_RW_mark 19 = .ok (.invokevirtual 81, 3) := by decide +kernel
theorem d_RW_mark_22 : decode b_RW_mark 22 = .ok (.new 95, 3) := by decide +kernel
theorem d_RW_mark_25 : decode b_RW_mark 25 = .ok (.dup, 1) := by decide +kernel
theorem d_RW_mark_26 : decode b_RW_mark 26 = .ok (.invokespecial 97, 3) := by decide +kernel
theorem d_RW_mark_29 : decode b_RW_mark 29 = .ok (.athrow, 1) := by decide +kernel
theorem d_RW_mark_30 : decode b_RW_mark 30 = .ok (.aload_n 0, 1) := by decide +kernel
theorem d_RW_mark_31 : decode b_RW_mark 31 = .ok (.getfield 22, 3) := by decide +kernel
theorem d_RW_mark_34 : decode b_RW_mark 34 = .ok (.aload_n 0, 1) := by decide +kernel
theorem d_RW_mark_35 : decode b_RW_mark 35 = .ok (.getfield 15, 3) := by decide +kernel
theorem d_RW_mark_38 : decode b_RW_mark 38 = .ok (.invokevirtual 118, 3) := by decide +kernel
theorem d_RW_mark_41 : decode b_RW_mark 41 = .ok (.aload_n 0, 1) := by decide +kernel
theorem d_RW_mark_42 : decode b_RW_mark 42 = .ok (.invokevirtual 102, 3) := by decide +kernel
theorem d_RW_mark_45 : decode b_RW_mark 45 = .ok (.ireturn, 1) := by decide +kernel
abbrev b_RW_write : ByteArray := prog_1_method_11_code
abbrev y_RW_write : MethodName := ⟨"ReplacementWriter", "write", "(I)I"⟩
theorem d_RW_write_0 : decode b_RW_write 0 = .ok (.iload_n 1, 1) := by decide +kernel
theorem d_RW_write_1 : decode b_RW_write 1 = .ok (.sipush (-7681), 3) := by decide +kernel
theorem d_RW_write_4 : decode b_RW_write 4 = .ok (.iand, 1) := by decide +kernel
theorem d_RW_write_5 : decode b_RW_write 5 = .ok (.ifCond .eq 11, 3) := by decide +kernel
theorem d_RW_write_8 : decode b_RW_write 8 = .ok (.new 78, 3) := by decide +kernel
theorem d_RW_write_11 : decode b_RW_write 11 = .ok (.dup, 1) := by decide +kernel
theorem d_RW_write_12 : decode b_RW_write 12 = .ok (.invokespecial 80, 3) := by decide +kernel
theorem d_RW_write_15 : decode b_RW_write 15 = .ok (.athrow, 1) := by decide +kernel
theorem d_RW_write_16 : decode b_RW_write 16 = .ok (.aload_n 0, 1) := by decide +kernel
theorem d_RW_write_17 : decode b_RW_write 17 = .ok (.getfield 52, 3) := by decide +kernel
theorem d_RW_write_20 : decode b_RW_write 20 = .ok (.invokevirtual 125, 3) := by decide +kernel
theorem d_RW_write_23 : decode b_RW_write 23 = .ok (.aload_n 0, 1) := by decide +kernel
theorem d_RW_write_24 : decode b_RW_write 24 = .ok (.getfield 61, 3) := by decide +kernel
theorem d_RW_write_27 : decode b_RW_write 27 = .ok (.iload_n 1, 1) := by decide +kernel
theorem d_RW_write_28 : decode b_RW_write 28 = .ok (.invokevirtual 127, 3) := by decide +kernel
theorem d_RW_write_31 : decode b_RW_write 31 = .ok (.aload_n 0, 1) := by decide +kernel
theorem d_RW_write_32 : decode b_RW_write 32 = .ok (.getfield 38, 3) := by decide +kernel
theorem d_RW_write_35 : decode b_RW_write 35 = .ok (.aload_n 0, 1) := by decide +kernel
theorem d_RW_write_36 : decode b_RW_write 36 = .ok (.getfield 15, 3) := by decide +kernel
theorem d_RW_write_39 : decode b_RW_write 39 = .ok (.invokevirtual 91, 3) := by decide +kernel
theorem d_RW_write_42 : decode b_RW_write 42 = .ok (.istore_n 2, 1) := by decide +kernel
theorem d_RW_write_43 : decode b_RW_write 43 = .ok (.iload_n 2, 1) := by decide +kernel
theorem d_RW_write_44 : decode b_RW_write 44 = .ok (.ifCond .lt 17, 3) := by decide +kernel
theorem d_RW_write_47 : decode b_RW_write 47 = .ok (.aload_n 0, 1) := by decide +kernel
theorem d_RW_write_48 : decode b_RW_write 48 = .ok (.getfield 61, 3) := by decide +kernel
theorem d_RW_write_51 : decode b_RW_write 51 = .ok (.bipush (-3), 2) := by decide +kernel
theorem d_RW_write_53 : decode b_RW_write 53 = .ok (.iload_n 2, 1) := by decide +kernel
theorem d_RW_write_54 : decode b_RW_write 54 = .ok (.invokevirtual 128, 3) := by decide +kernel
theorem d_RW_write_57 : decode b_RW_write 57 = .ok (.pop, 1) := by decide +kernel
theorem d_RW_write_58 : decode b_RW_write 58 = .ok (.goto 49, 3) := by decide +kernel
theorem d_RW_write_61 : decode b_RW_write 61 = .ok (.iload_n 1, 1) := by decide +kernel
theorem d_RW_write_62 : decode b_RW_write 62 = .ok (.sipush 4096, 3) := by decide +kernel
theorem d_RW_write_65 : decode b_RW_write 65 = .ok (.iand, 1) := by decide +kernel
theorem d_RW_write_66 : decode b_RW_write 66 = .ok (.ifCond .eq 25, 3) := by decide +kernel
theorem d_RW_write_69 : decode b_RW_write 69 = .ok (.aload_n 0, 1) := by decide +kernel
theorem d_RW_write_70 : decode b_RW_write 70 = .ok (.getfield 52, 3) := by decide +kernel
theorem d_RW_write_73 : decode b_RW_write 73 = .ok (.aload_n 0, 1) := by decide +kernel
theorem d_RW_write_74 : decode b_RW_write 74 = .ok (.getfield 15, 3) := by decide +kernel
theorem d_RW_write_77 : decode b_RW_write 77 = .ok (.iconst 0, 1) := by decide +kernel
theorem d_RW_write_78 : decode b_RW_write 78 = .ok (.aload_n 0, 1) := by decide +kernel
theorem d_RW_write_79 : decode b_RW_write 79 = .ok (.getfield 15, 3) := by decide +kernel
theorem d_RW_write_82 : decode b_RW_write 82 = .ok (.invokevirtual 65, 3) := by decide +kernel
theorem d_RW_write_85 : decode b_RW_write 85 = .ok (.invokevirtual 132, 3) := by decide +kernel
theorem d_RW_write_88 : decode b_RW_write 88 = .ok (.goto 19, 3) := by decide +kernel
theorem d_RW_write_91 : decode b_RW_write 91 = .ok (.aload_n 0, 1) := by decide +kernel
theorem d_RW_write_92 : decode b_RW_write 92 = .ok (.getfield 61, 3) := by decide +kernel
theorem d_RW_write_95 : decode b_RW_write 95 = .ok (.iconst 0, 1) := by decide +kernel
theorem d_RW_write_96 : decode b_RW_write 96 = .ok (.aload_n 0, 1) := by decide +kernel
theorem d_RW_write_97 : decode b_RW_write 97 = .ok (.getfield 15, 3) := by decide +kernel
theorem d_RW_write_100 : decode b_RW_write 100 = .ok (.invokevirtual 65, 3) := by decide +kernel
theorem d_RW_write_103 : decode b_RW_write 103 = .ok (.iconst 0, 1) := by decide +kernel
theorem d_RW_write_104 : decode b_RW_write 104 = .ok (.invokevirtual 136, 3) := by decide +kernel
theorem d_RW_write_107 : decode b_RW_write 107 = .ok (.aload_n 0, 1) := by decide +kernel
theorem d_RW_write_108 : decode b_RW_write 108 = .ok (.getfield 15, 3) := by decide +kernel
theorem d_RW_write_111 : decode b_RW_write 111 = .ok (.iconst 0, 1) := by decide +kernel
theorem d_RW_write_112 : decode b_RW_write 112 = .ok (.invokevirtual 81, 3) := by decide +kernel
theorem d_RW_write_115 : decode b_RW_write 115 = .ok (.aload_n 0, 1) := by decide +kernel
theorem d_RW_write_116 : decode b_RW_write 116 = .ok (.aload_n 0, 1) := by decide +kernel
theorem d_RW_write_117 : decode b_RW_write 117 = .ok (.getfield 61, 3) := by decide +kernel
theorem d_RW_write_120 : decode b_RW_write 120 = .ok (.invokevirtual 140, 3) := by decide +kernel
theorem d_RW_write_123 : decode b_RW_write 123 = .ok (.putfield 26, 3) := by decide +kernel
theorem d_RW_write_126 : decode b_RW_write 126 = .ok (.aload_n 0, 1) := by decide +kernel
theorem d_RW_write_127 : decode b_RW_write 127 = .ok (.aload_n 0, 1) := by decide +kernel
theorem d_RW_write_128 : decode b_RW_write 128 = .ok (.getfield 61, 3) := by decide +kernel
theorem d_RW_write_131 : decode b_RW_write 131 = .ok (.invokevirtual 143, 3) := by decide +kernel
theorem d_RW_write_134 : decode b_RW_write 134 = .ok (.putfield 30, 3) := by decide +kernel
theorem d_RW_write_137 : decode b_RW_write 137 = .ok (.aload_n 0, 1) := by decide +kernel
theorem d_RW_write_138 : decode b_RW_write 138 = .ok (.getfield 26, 3) := by decide +kernel
theorem d_RW_write_141 : decode b_RW_write 141 = .ok (.ifCond .eq 15, 3) := by decide +kernel
theorem d_RW_write_144 : decode b_RW_write 144 = .ok (.aload_n 0, 1) := by decide +kernel
theorem d_RW_write_145 : decode b_RW_write 145 = .ok (.getfield 52, 3) := by decide +kernel
theorem d_RW_write_148 : decode b_RW_write 148 = .ok (.invokevirtual 125, 3) := by decide +kernel
theorem d_RW_write_151 : decode b_RW_write 151 = .ok (.aload_n 0, 1) := by decide +kernel
theorem d_RW_write_152 : decode b_RW_write 152 = .ok (.getfield 26, 3) := by decide +kernel
theorem d_RW_write_155 : decode b_RW_write 155 = .ok (.ireturn, 1) := by decide +kernel
theorem d_RW_write_156 : decode b_RW_write 156 = .ok (.aload_n 0, 1) := by decide +kernel
theorem d_RW_write_157 : decode b_RW_write 157 = .ok (.getfield 52, 3) := by decide +kernel
theorem d_RW_write_160 : decode b_RW_write 160 = .ok (.invokevirtual 146, 3) := by decide +kernel
theorem d_RW_write_163 : decode b_RW_write 163 = .ok (.invokevirtual 65, 3) := by decide +kernel
theorem d_RW_write_166 : decode b_RW_write 166 = .ok (.ireturn, 1) := by decide +kernel
abbrev b_Writing_startAnew : ByteArray := prog_11_method_2_code
abbrev y_Writing_startAnew : MethodName := ⟨"ReplacementWriter$Writing", "startAnew", "(I)V"⟩
theorem d_Writing_startAnew_0 : decode b_Writing_startAnew 0 = .ok (.aload_n 0, 1) := by decide +kernel
theorem d_Writing_startAnew_1 : decode b_Writing_startAnew 1 = .ok (.iload_n 1, 1) := by decide +kernel
theorem d_Writing_startAnew_2 : decode b_Writing_startAnew 2 = .ok (.sipush 512, 3) := by decide +kernel
theorem d_Writing_startAnew_5 : decode b_Writing_startAnew 5 = .ok (.iand, 1) := by decide +kernel
theorem d_Writing_startAnew_6 : decode b_Writing_startAnew 6 = .ok (.ifCond .eq 7, 3) := by decide +kernel
theorem d_Writing_startAnew_9 : decode b_Writing_startAnew 9 = .ok (.iconst 1, 1) := by decide +kernel
theorem d_Writing_startAnew_10 : decode b_Writing_startAnew 10 = .ok (.goto 4, 3) := by decide +kernel
theorem d_Writing_startAnew_13 : decode b_Writing_startAnew 13 = .ok (.iconst 0, 1) := by decide +kernel
theorem d_Writing_startAnew_14 : decode b_Writing_startAnew 14 = .ok (.putfield 9, 3) := by decide +kernel
theorem d_Writing_startAnew_17 : decode b_Writing_startAnew 17 = .ok (.aload_n 0, 1) := by decide +kernel
theorem d_Writing_startAnew_18 : decode b_Writing_startAnew 18 = .ok (.iload_n 1, 1) := by decide +kernel
theorem d_Writing_startAnew_19 : decode b_Writing_startAnew 19 = .ok (.sipush 1024, 3) := by decide +kernel
theorem d_Writing_startAnew_22 : decode b_Writing_startAnew 22 = .ok (.iand, 1) := by decide +kernel
theorem d_Writing_startAnew_23 : decode b_Writing_startAnew 23 = .ok (.ifCond .eq 7, 3) := by decide +kernel
theorem d_Writing_startAnew_26 : decode b_Writing_startAnew 26 = .ok (.iconst 1, 1) := by decide +kernel
theorem d_Writing_startAnew_27 : decode b_Writing_startAnew 27 = .ok (.goto 4, 3) := by decide +kernel
theorem d_Writing_startAnew_30 : decode b_Writing_startAnew 30 = .ok (.iconst 0, 1) := by decide +kernel
theorem d_Writing_startAnew_31 : decode b_Writing_startAnew 31 = .ok (.putfield 15, 3) := by decide +kernel
theorem d_Writing_startAnew_34 : decode b_Writing_startAnew 34 = .ok (.aload_n 0, 1) := by decide +kernel
theorem d_Writing_startAnew_35 : decode b_Writing_startAnew 35 = .ok (.iload_n 1, 1) := by decide +kernel
theorem d_Writing_startAnew_36 : decode b_Writing_startAnew 36 = .ok (.sipush 2048, 3) := by decide +kernel
theorem d_Writing_startAnew_39 : decode b_Writing_startAnew 39 = .ok (.iand, 1) := by decide +kernel
theorem d_Writing_startAnew_40 : decode b_Writing_startAnew 40 = .ok (.ifCond .eq 7, 3) := by decide +kernel
theorem d_Writing_startAnew_43 : decode b_Writing_startAnew 43 = .ok (.iconst 1, 1) := by decide +kernel
theorem d_Writing_startAnew_44 : decode b_Writing_startAnew 44 = .ok (.goto 4, 3) := by decide +kernel
theorem d_Writing_startAnew_47 : decode b_Writing_startAnew 47 = .ok (.iconst 0, 1) := by decide +kernel
theorem d_Writing_startAnew_48 : decode b_Writing_startAnew 48 = .ok (.putfield 18, 3) := by decide +kernel
theorem d_Writing_startAnew_51 : decode b_Writing_startAnew 51 = .ok (.aload_n 0, 1) := by decide +kernel
theorem d_Writing_startAnew_52 : decode b_Writing_startAnew 52 = .ok (.iconst 0, 1) := by decide +kernel
theorem d_Writing_startAnew_53 : decode b_Writing_startAnew 53 = .ok (.putfield 21, 3) := by decide +kernel
theorem d_Writing_startAnew_56 : decode b_Writing_startAnew 56 = .ok (.aload_n 0, 1) := by decide +kernel
theorem d_Writing_startAnew_57 : decode b_Writing_startAnew 57 = .ok (.iconst (-1), 1) := by decide +kernel
theorem d_Writing_startAnew_58 : decode b_Writing_startAnew 58 = .ok (.putfield 25, 3) := by decide +kernel
theorem d_Writing_startAnew_61 : decode b_Writing_startAnew 61 = .ok (.return_, 1) := by decide +kernel
abbrev b_Writing_fail : ByteArray := prog_11_method_5_code
abbrev y_Writing_fail : MethodName := ⟨"ReplacementWriter$Writing", "fail", "(II)I"⟩
theorem d_Writing_fail_0 : decode b_Writing_fail 0 = .ok (.aload_n 0, 1) := by decide +kernel
theorem d_Writing_fail_1 : decode b_Writing_fail 1 = .ok (.getfield 21, 3) := by decide +kernel
theorem d_Writing_fail_4 : decode b_Writing_fail 4 = .ok (.ifCond .ne 13, 3) := by decide +kernel
theorem d_Writing_fail_7 : decode b_Writing_fail 7 = .ok (.aload_n 0, 1) := by decide +kernel
theorem d_Writing_fail_8 : decode b_Writing_fail 8 = .ok (.iload_n 1, 1) := by decide +kernel
theorem d_Writing_fail_9 : decode b_Writing_fail 9 = .ok (.putfield 21, 3) := by decide +kernel
theorem d_Writing_fail_12 : decode b_Writing_fail 12 = .ok (.aload_n 0, 1) := by decide +kernel
theorem d_Writing_fail_13 : decode b_Writing_fail 13 = .ok (.iload_n 2, 1) := by decide +kernel
theorem d_Writing_fail_14 : decode b_Writing_fail 14 = .ok (.putfield 25, 3) := by decide +kernel
theorem d_Writing_fail_17 : decode b_Writing_fail 17 = .ok (.aload_n 0, 1) := by decide +kernel
theorem d_Writing_fail_18 : decode b_Writing_fail 18 = .ok (.getfield 28, 3) := by decide +kernel
theorem d_Writing_fail_21 : decode b_Writing_fail 21 = .ok (.invokevirtual 53, 3) := by decide +kernel
theorem d_Writing_fail_24 : decode b_Writing_fail 24 = .ok (.ireturn, 1) := by decide +kernel
abbrev b_Writing_writePart : ByteArray := prog_11_method_6_code
abbrev y_Writing_writePart : MethodName := ⟨"ReplacementWriter$Writing", "writePart", "(III)V"⟩
theorem d_Writing_writePart_0 : decode b_Writing_writePart 0 = .ok (.iload_n 1, 1) := by decide +kernel
theorem d_Writing_writePart_1 : decode b_Writing_writePart 1 = .ok (.istore 4, 2) := by decide +kernel
theorem d_Writing_writePart_3 : decode b_Writing_writePart 3 = .ok (.iload 4, 2) := by decide +kernel
theorem d_Writing_writePart_5 : decode b_Writing_writePart 5 = .ok (.iload_n 2, 1) := by decide +kernel
theorem d_Writing_writePart_6 : decode b_Writing_writePart 6 = .ok (.if_icmp .ge 107, 3) := by decide +kernel
theorem d_Writing_writePart_9 : decode b_Writing_writePart 9 = .ok (.aload_n 0, 1) := by decide +kernel
theorem d_Writing_writePart_10 : decode b_Writing_writePart 10 = .ok (.getfield 21, 3) := by decide +kernel
theorem d_Writing_writePart_13 : decode b_Writing_writePart 13 = .ok (.ifCond .ne 100, 3) := by decide +kernel
theorem d_Writing_writePart_16 : decode b_Writing_writePart 16 = .ok (.aload_n 0, 1) := by decide +kernel
theorem d_Writing_writePart_17 : decode b_Writing_writePart 17 = .ok (.getfield 28, 3) := by decide +kernel
theorem d_Writing_writePart_20 : decode b_Writing_writePart 20 = .ok (.iload 4, 2) := by decide +kernel
theorem d_Writing_writePart_22 : decode b_Writing_writePart 22 = .ok (.invokevirtual 59, 3) := by decide +kernel
theorem d_Writing_writePart_25 : decode b_Writing_writePart 25 = .ok (.istore 6, 2) := by decide +kernel
theorem d_Writing_writePart_27 : decode b_Writing_writePart 27 = .ok (.iload 6, 2) := by decide +kernel
theorem d_Writing_writePart_29 : decode b_Writing_writePart 29 = .ok (.bipush 36, 2) := by decide +kernel
theorem d_Writing_writePart_31 : decode b_Writing_writePart 31 = .ok (.if_icmp .ne 16, 3) := by decide +kernel
theorem d_Writing_writePart_34 : decode b_Writing_writePart 34 = .ok (.aload_n 0, 1) := by decide +kernel
theorem d_Writing_writePart_35 : decode b_Writing_writePart 35 = .ok (.iload 4, 2) := by decide +kernel
theorem d_Writing_writePart_37 : decode b_Writing_writePart 37 = .ok (.iload_n 2, 1) := by decide +kernel
theorem d_Writing_writePart_38 : decode b_Writing_writePart 38 = .ok (.iload_n 3, 1) := by decide +kernel
theorem d_Writing_writePart_39 : decode b_Writing_writePart 39 = .ok (.invokevirtual 63, 3) := by decide +kernel
theorem d_Writing_writePart_42 : decode b_Writing_writePart 42 = .ok (.istore 5, 2) := by decide +kernel
theorem d_Writing_writePart_44 : decode b_Writing_writePart 44 = .ok (.goto 37, 3) := by decide +kernel
theorem d_Writing_writePart_47 : decode b_Writing_writePart 47 = .ok (.iload 6, 2) := by decide +kernel
theorem d_Writing_writePart_49 : decode b_Writing_writePart 49 = .ok (.bipush 92, 2) := by decide +kernel
theorem d_Writing_writePart_51 : decode b_Writing_writePart 51 = .ok (.if_icmp .ne 22, 3) := by decide +kernel
theorem d_Writing_writePart_54 : decode b_Writing_writePart 54 = .ok (.aload_n 0, 1) := by decide +kernel
theorem d_Writing_writePart_55 : decode b_Writing_writePart 55 = .ok (.getfield 9, 3) := by decide +kernel
theorem d_Writing_writePart_58 : decode b_Writing_writePart 58 = .ok (.ifCond .eq 15, 3) := by decide +kernel
theorem d_Writing_writePart_61 : decode b_Writing_writePart 61 = .ok (.aload_n 0, 1) := by decide +kernel
theorem d_Writing_writePart_62 : decode b_Writing_writePart 62 = .ok (.iload 4, 2) := by decide +kernel
theorem d_Writing_writePart_64 : decode b_Writing_writePart 64 = .ok (.iload_n 2, 1) := by decide +kernel
theorem d_Writing_writePart_65 : decode b_Writing_writePart 65 = .ok (.invokevirtual 67, 3) := by decide +kernel
theorem d_Writing_writePart_68 : decode b_Writing_writePart 68 = .ok (.istore 5, 2) := by decide +kernel
theorem d_Writing_writePart_70 : decode b_Writing_writePart 70 = .ok (.goto 11, 3) := by decide +kernel
theorem d_Writing_writePart_73 : decode b_Writing_writePart 73 = .ok (.aload_n 0, 1) := by decide +kernel
theorem d_Writing_writePart_74 : decode b_Writing_writePart 74 = .ok (.iload 4, 2) := by decide +kernel
theorem d_Writing_writePart_76 : decode b_Writing_writePart 76 = .ok (.invokevirtual 71, 3) := by decide +kernel
theorem d_Writing_writePart_79 : decode b_Writing_writePart 79 = .ok (.istore 5, 2) := by decide +kernel
theorem d_Writing_writePart_81 : decode b_Writing_writePart 81 = .ok (.aload_n 0, 1) := by decide +kernel
theorem d_Writing_writePart_82 : decode b_Writing_writePart 82 = .ok (.getfield 36, 3) := by decide +kernel
theorem d_Writing_writePart_85 : decode b_Writing_writePart 85 = .ok (.invokevirtual 74, 3) := by decide +kernel
theorem d_Writing_writePart_88 : decode b_Writing_writePart 88 = .ok (.ifCond .eq 11, 3) := by decide +kernel
theorem d_Writing_writePart_91 : decode b_Writing_writePart 91 = .ok (.aload_n 0, 1) := by decide +kernel
theorem d_Writing_writePart_92 : decode b_Writing_writePart 92 = .ok (.bipush (-48), 2) := by decide +kernel
theorem d_Writing_writePart_94 : decode b_Writing_writePart 94 = .ok (.iconst (-1), 1) := by decide +kernel
theorem d_Writing_writePart_95 : decode b_Writing_writePart 95 = .ok (.invokevirtual 80, 3) := by decide +kernel
theorem d_Writing_writePart_98 : decode b_Writing_writePart 98 = .ok (.pop, 1) := by decide +kernel
theorem d_Writing_writePart_99 : decode b_Writing_writePart 99 = .ok (.iload 4, 2) := by decide +kernel
theorem d_Writing_writePart_101 : decode b_Writing_writePart 101 = .ok (.iconst 1, 1) := by decide +kernel
theorem d_Writing_writePart_102 : decode b_Writing_writePart 102 = .ok (.iadd, 1) := by decide +kernel
theorem d_Writing_writePart_103 : decode b_Writing_writePart 103 = .ok (.iload 5, 2) := by decide +kernel
theorem d_Writing_writePart_105 : decode b_Writing_writePart 105 = .ok (.invokestatic 83, 3) := by decide +kernel
theorem d_Writing_writePart_108 : decode b_Writing_writePart 108 = .ok (.istore 4, 2) := by decide +kernel
theorem d_Writing_writePart_110 : decode b_Writing_writePart 110 = .ok (.goto (-107), 3) := by decide +kernel
theorem d_Writing_writePart_113 : decode b_Writing_writePart 113 = .ok (.return_, 1) := by decide +kernel
abbrev b_Writing_writeDollar : ByteArray := prog_11_method_9_code
abbrev y_Writing_writeDollar : MethodName := ⟨"ReplacementWriter$Writing", "writeDollar", "(III)I"⟩
theorem d_Writing_writeDollar_0 : decode b_Writing_writeDollar 0 = .ok (.aload_n 0, 1) := by decide +kernel
theorem d_Writing_writeDollar_1 : decode b_Writing_writeDollar 1 = .ok (.iload_n 1, 1) := by decide +kernel
theorem d_Writing_writeDollar_2 : decode b_Writing_writeDollar 2 = .ok (.iconst 1, 1) := by decide +kernel
theorem d_Writing_writeDollar_3 : decode b_Writing_writeDollar 3 = .ok (.iadd, 1) := by decide +kernel
theorem d_Writing_writeDollar_4 : decode b_Writing_writeDollar 4 = .ok (.iload_n 2, 1) := by decide +kernel
theorem d_Writing_writeDollar_5 : decode b_Writing_writeDollar 5 = .ok (.invokevirtual 101, 3) := by decide +kernel
theorem d_Writing_writeDollar_8 : decode b_Writing_writeDollar 8 = .ok (.bipush 123, 2) := by decide +kernel
theorem d_Writing_writeDollar_10 : decode b_Writing_writeDollar 10 = .ok (.if_icmp .ne 7, 3) := by decide +kernel
theorem d_Writing_writeDollar_13 : decode b_Writing_writeDollar 13 = .ok (.iconst 1, 1) := by decide +kernel
theorem d_Writing_writeDollar_14 : decode b_Writing_writeDollar 14 = .ok (.goto 4, 3) := by decide +kernel
theorem d_Writing_writeDollar_17 : decode b_Writing_writeDollar 17 = .ok (.iconst 0, 1) := by decide +kernel
theorem d_Writing_writeDollar_18 : decode b_Writing_writeDollar 18 = .ok (.istore 4, 2) := by decide +kernel
theorem d_Writing_writeDollar_20 : decode b_Writing_writeDollar 20 = .ok (.iload 4, 2) := by decide +kernel
theorem d_Writing_writeDollar_22 : decode b_Writing_writeDollar 22 = .ok (.ifCond .eq 9, 3) := by decide +kernel
theorem d_Writing_writeDollar_25 : decode b_Writing_writeDollar 25 = .ok (.iload_n 1, 1) := by decide +kernel
theorem d_Writing_writeDollar_26 : decode b_Writing_writeDollar 26 = .ok (.iconst 2, 1) := by decide +kernel
theorem d_Writing_writeDollar_27 : decode b_Writing_writeDollar 27 = .ok (.iadd, 1) := by decide +kernel
theorem d_Writing_writeDollar_28 : decode b_Writing_writeDollar 28 = .ok (.goto 6, 3) := by decide +kernel
theorem d_Writing_writeDollar_31 : decode b_Writing_writeDollar 31 = .ok (.iload_n 1, 1) := by decide +kernel
theorem d_Writing_writeDollar_32 : decode b_Writing_writeDollar 32 = .ok (.iconst 1, 1) := by decide +kernel
theorem d_Writing_writeDollar_33 : decode b_Writing_writeDollar 33 = .ok (.iadd, 1) := by decide +kernel
theorem d_Writing_writeDollar_34 : decode b_Writing_writeDollar 34 = .ok (.istore 5, 2) := by decide +kernel
theorem d_Writing_writeDollar_36 : decode b_Writing_writeDollar 36 = .ok (.aload_n 0, 1) := by decide +kernel
theorem d_Writing_writeDollar_37 : decode b_Writing_writeDollar 37 = .ok (.iload 5, 2) := by decide +kernel
theorem d_Writing_writeDollar_39 : decode b_Writing_writeDollar 39 = .ok (.iload_n 2, 1) := by decide +kernel
theorem d_Writing_writeDollar_40 : decode b_Writing_writeDollar 40 = .ok (.invokevirtual 101, 3) := by decide +kernel
theorem d_Writing_writeDollar_43 : decode b_Writing_writeDollar 43 = .ok (.bipush 36, 2) := by decide +kernel
theorem d_Writing_writeDollar_45 : decode b_Writing_writeDollar 45 = .ok (.if_icmp .ne 22, 3) := by decide +kernel
theorem d_Writing_writeDollar_48 : decode b_Writing_writeDollar 48 = .ok (.iload 4, 2) := by decide +kernel
theorem d_Writing_writeDollar_50 : decode b_Writing_writeDollar 50 = .ok (.ifCond .ne 17, 3) := by decide +kernel
theorem d_Writing_writeDollar_53 : decode b_Writing_writeDollar 53 = .ok (.aload_n 0, 1) := by decide +kernel
theorem d_Writing_writeDollar_54 : decode b_Writing_writeDollar 54 = .ok (.getfield 36, 3) := by decide +kernel
theorem d_Writing_writeDollar_57 : decode b_Writing_writeDollar 57 = .ok (.bipush 36, 2) := by decide +kernel
theorem d_Writing_writeDollar_59 : decode b_Writing_writeDollar 59 = .ok (.invokevirtual 94, 3) := by decide +kernel
theorem d_Writing_writeDollar_62 : decode b_Writing_writeDollar 62 = .ok (.iload 5, 2) := by decide +kernel
theorem d_Writing_writeDollar_64 : decode b_Writing_writeDollar 64 = .ok (.iconst 1, 1) := by decide +kernel
theorem d_Writing_writeDollar_65 : decode b_Writing_writeDollar 65 = .ok (.iadd, 1) := by decide +kernel
theorem d_Writing_writeDollar_66 : decode b_Writing_writeDollar 66 = .ok (.ireturn, 1) := by decide +kernel
theorem d_Writing_writeDollar_67 : decode b_Writing_writeDollar 67 = .ok (.aload_n 0, 1) := by decide +kernel
theorem d_Writing_writeDollar_68 : decode b_Writing_writeDollar 68 = .ok (.iload 5, 2) := by decide +kernel
theorem d_Writing_writeDollar_70 : decode b_Writing_writeDollar 70 = .ok (.iload_n 2, 1) := by decide +kernel
theorem d_Writing_writeDollar_71 : decode b_Writing_writeDollar 71 = .ok (.invokevirtual 101, 3) := by decide +kernel
theorem d_Writing_writeDollar_74 : decode b_Writing_writeDollar 74 = .ok (.bipush 42, 2) := by decide +kernel
theorem d_Writing_writeDollar_76 : decode b_Writing_writeDollar 76 = .ok (.if_icmp .ne 12, 3) := by decide +kernel
theorem d_Writing_writeDollar_79 : decode b_Writing_writeDollar 79 = .ok (.aload_n 0, 1) := by decide +kernel
theorem d_Writing_writeDollar_80 : decode b_Writing_writeDollar 80 = .ok (.iload_n 1, 1) := by decide +kernel
theorem d_Writing_writeDollar_81 : decode b_Writing_writeDollar 81 = .ok (.iload_n 2, 1) := by decide +kernel
theorem d_Writing_writeDollar_82 : decode b_Writing_writeDollar 82 = .ok (.iload 4, 2) := by decide +kernel
theorem d_Writing_writeDollar_84 : decode b_Writing_writeDollar 84 = .ok (.invokevirtual 104, 3) := by decide +kernel
theorem d_Writing_writeDollar_87 : decode b_Writing_writeDollar 87 = .ok (.ireturn, 1) := by decide +kernel
theorem d_Writing_writeDollar_88 : decode b_Writing_writeDollar 88 = .ok (.aload_n 0, 1) := by decide +kernel
theorem d_Writing_writeDollar_89 : decode b_Writing_writeDollar 89 = .ok (.iload 5, 2) := by decide +kernel
theorem d_Writing_writeDollar_91 : decode b_Writing_writeDollar 91 = .ok (.iload_n 2, 1) := by decide +kernel
theorem d_Writing_writeDollar_92 : decode b_Writing_writeDollar 92 = .ok (.invokevirtual 108, 3) := by decide +kernel
theorem d_Writing_writeDollar_95 : decode b_Writing_writeDollar 95 = .ok (.istore 6, 2) := by decide +kernel
theorem d_Writing_writeDollar_97 : decode b_Writing_writeDollar 97 = .ok (.iload 6, 2) := by decide +kernel
theorem d_Writing_writeDollar_99 : decode b_Writing_writeDollar 99 = .ok (.iload 5, 2) := by decide +kernel
theorem d_Writing_writeDollar_101 : decode b_Writing_writeDollar 101 = .ok (.if_icmp .ne 11, 3) := by decide +kernel
theorem d_Writing_writeDollar_104 : decode b_Writing_writeDollar 104 = .ok (.aload_n 0, 1) := by decide +kernel
theorem d_Writing_writeDollar_105 : decode b_Writing_writeDollar 105 = .ok (.bipush (-35), 2) := by decide +kernel
theorem d_Writing_writeDollar_107 : decode b_Writing_writeDollar 107 = .ok (.iload_n 1, 1) := by decide +kernel
theorem d_Writing_writeDollar_108 : decode b_Writing_writeDollar 108 = .ok (.invokevirtual 80, 3) := by decide +kernel
theorem d_Writing_writeDollar_111 : decode b_Writing_writeDollar 111 = .ok (.ireturn, 1) := by decide +kernel
theorem d_Writing_writeDollar_112 : decode b_Writing_writeDollar 112 = .ok (.iload 4, 2) := by decide +kernel
theorem d_Writing_writeDollar_114 : decode b_Writing_writeDollar 114 = .ok (.ifCond .ne 15, 3) := by decide +kernel
theorem d_Writing_writeDollar_117 : decode b_Writing_writeDollar 117 = .ok (.aload_n 0, 1) := by decide +kernel
theorem d_Writing_writeDollar_118 : decode b_Writing_writeDollar 118 = .ok (.iload_n 1, 1) := by decide +kernel
theorem d_Writing_writeDollar_119 : decode b_Writing_writeDollar 119 = .ok (.iload 5, 2) := by decide +kernel
theorem d_Writing_writeDollar_121 : decode b_Writing_writeDollar 121 = .ok (.iload 6, 2) := by decide +kernel
theorem d_Writing_writeDollar_123 : decode b_Writing_writeDollar 123 = .ok (.iload 6, 2) := by decide +kernel
theorem d_Writing_writeDollar_125 : decode b_Writing_writeDollar 125 = .ok (.invokevirtual 111, 3) := by decide +kernel
theorem d_Writing_writeDollar_128 : decode b_Writing_writeDollar 128 = .ok (.ireturn, 1) := by decide +kernel
theorem d_Writing_writeDollar_129 : decode b_Writing_writeDollar 129 = .ok (.aload_n 0, 1) := by decide +kernel
theorem d_Writing_writeDollar_130 : decode b_Writing_writeDollar 130 = .ok (.iload 6, 2) := by decide +kernel
theorem d_Writing_writeDollar_132 : decode b_Writing_writeDollar 132 = .ok (.iload_n 2, 1) := by decide +kernel
theorem d_Writing_writeDollar_133 : decode b_Writing_writeDollar 133 = .ok (.invokevirtual 101, 3) := by decide +kernel
theorem d_Writing_writeDollar_136 : decode b_Writing_writeDollar 136 = .ok (.bipush 125, 2) := by decide +kernel
theorem d_Writing_writeDollar_138 : decode b_Writing_writeDollar 138 = .ok (.if_icmp .ne 17, 3) := by decide +kernel
theorem d_Writing_writeDollar_141 : decode b_Writing_writeDollar 141 = .ok (.aload_n 0, 1) := by decide +kernel
theorem d_Writing_writeDollar_142 : decode b_Writing_writeDollar 142 = .ok (.iload_n 1, 1) := by decide +kernel
theorem d_Writing_writeDollar_143 : decode b_Writing_writeDollar 143 = .ok (.iload 5, 2) := by decide +kernel
theorem d_Writing_writeDollar_145 : decode b_Writing_writeDollar 145 = .ok (.iload 6, 2) := by decide +kernel
theorem d_Writing_writeDollar_147 : decode b_Writing_writeDollar 147 = .ok (.iload 6, 2) := by decide +kernel
theorem d_Writing_writeDollar_149 : decode b_Writing_writeDollar 149 = .ok (.iconst 1, 1) := by decide +kernel
theorem d_Writing_writeDollar_150 : decode b_Writing_writeDollar 150 = .ok (.iadd, 1) := by decide +kernel
theorem d_Writing_writeDollar_151 : decode b_Writing_writeDollar 151 = .ok (.invokevirtual 111, 3) := by decide +kernel
theorem d_Writing_writeDollar_154 : decode b_Writing_writeDollar 154 = .ok (.ireturn, 1) := by decide +kernel
theorem d_Writing_writeDollar_155 : decode b_Writing_writeDollar 155 = .ok (.aload_n 0, 1) := by decide +kernel
theorem d_Writing_writeDollar_156 : decode b_Writing_writeDollar 156 = .ok (.iload 6, 2) := by decide +kernel
theorem d_Writing_writeDollar_158 : decode b_Writing_writeDollar 158 = .ok (.iload_n 2, 1) := by decide +kernel
theorem d_Writing_writeDollar_159 : decode b_Writing_writeDollar 159 = .ok (.invokevirtual 101, 3) := by decide +kernel
theorem d_Writing_writeDollar_162 : decode b_Writing_writeDollar 162 = .ok (.bipush 58, 2) := by decide +kernel
theorem d_Writing_writeDollar_164 : decode b_Writing_writeDollar 164 = .ok (.if_icmp .ne 15, 3) := by decide +kernel
theorem d_Writing_writeDollar_167 : decode b_Writing_writeDollar 167 = .ok (.aload_n 0, 1) := by decide +kernel
theorem d_Writing_writeDollar_168 : decode b_Writing_writeDollar 168 = .ok (.iload 6, 2) := by decide +kernel
theorem d_Writing_writeDollar_170 : decode b_Writing_writeDollar 170 = .ok (.iconst 1, 1) := by decide +kernel
theorem d_Writing_writeDollar_171 : decode b_Writing_writeDollar 171 = .ok (.iadd, 1) := by decide +kernel
theorem d_Writing_writeDollar_172 : decode b_Writing_writeDollar 172 = .ok (.iload_n 2, 1) := by decide +kernel
theorem d_Writing_writeDollar_173 : decode b_Writing_writeDollar 173 = .ok (.invokevirtual 101, 3) := by decide +kernel
theorem d_Writing_writeDollar_176 : decode b_Writing_writeDollar 176 = .ok (.goto 4, 3) := by decide +kernel
theorem d_Writing_writeDollar_179 : decode b_Writing_writeDollar 179 = .ok (.iconst (-1), 1) := by decide +kernel
theorem d_Writing_writeDollar_180 : decode b_Writing_writeDollar 180 = .ok (.istore 7, 2) := by decide +kernel
theorem d_Writing_writeDollar_182 : decode b_Writing_writeDollar 182 = .ok (.aload_n 0, 1) := by decide +kernel
theorem d_Writing_writeDollar_183 : decode b_Writing_writeDollar 183 = .ok (.getfield 9, 3) := by decide +kernel
theorem d_Writing_writeDollar_186 : decode b_Writing_writeDollar 186 = .ok (.ifCond .eq 17, 3) := by decide +kernel
theorem d_Writing_writeDollar_189 : decode b_Writing_writeDollar 189 = .ok (.iload 7, 2) := by decide +kernel
theorem d_Writing_writeDollar_191 : decode b_Writing_writeDollar 191 = .ok (.bipush 45, 2) := by decide +kernel
theorem d_Writing_writeDollar_193 : decode b_Writing_writeDollar 193 = .ok (.if_icmp .eq 18, 3) := by decide +kernel
theorem d_Writing_writeDollar_196 : decode b_Writing_writeDollar 196 = .ok (.iload 7, 2) := by decide +kernel
theorem d_Writing_writeDollar_198 : decode b_Writing_writeDollar 198 = .ok (.bipush 43, 2) := by decide +kernel
theorem d_Writing_writeDollar_200 : decode b_Writing_writeDollar 200 = .ok (.if_icmp .eq 11, 3) := by decide +kernel
theorem d_Writing_writeDollar_203 : decode b_Writing_writeDollar 203 = .ok (.aload_n 0, 1) := by decide +kernel
theorem d_Writing_writeDollar_204 : decode b_Writing_writeDollar 204 = .ok (.bipush (-58), 2) := by decide +kernel
theorem d_Writing_writeDollar_206 : decode b_Writing_writeDollar 206 = .ok (.iload_n 1, 1) := by decide +kernel
theorem d_Writing_writeDollar_207 : decode b_Writing_writeDollar 207 = .ok (.invokevirtual 80, 3) := by decide +kernel
theorem d_Writing_writeDollar_210 : decode b_Writing_writeDollar 210 = .ok (.ireturn, 1) := by decide +kernel
theorem d_Writing_writeDollar_211 : decode b_Writing_writeDollar 211 = .ok (.aload_n 0, 1) := by decide +kernel
theorem d_Writing_writeDollar_212 : decode b_Writing_writeDollar 212 = .ok (.iload_n 1, 1) := by decide +kernel
theorem d_Writing_writeDollar_213 : decode b_Writing_writeDollar 213 = .ok (.iload 5, 2) := by decide +kernel
theorem d_Writing_writeDollar_215 : decode b_Writing_writeDollar 215 = .ok (.iload 6, 2) := by decide +kernel
theorem d_Writing_writeDollar_217 : decode b_Writing_writeDollar 217 = .ok (.iload_n 2, 1) := by decide +kernel
theorem d_Writing_writeDollar_218 : decode b_Writing_writeDollar 218 = .ok (.iload_n 3, 1) := by decide +kernel
theorem d_Writing_writeDollar_219 : decode b_Writing_writeDollar 219 = .ok (.invokevirtual 115, 3) := by decide +kernel
theorem d_Writing_writeDollar_222 : decode b_Writing_writeDollar 222 = .ok (.ireturn, 1) := by decide +kernel
abbrev b_Writing_peek : ByteArray := prog_11_method_7_code
abbrev y_Writing_peek : MethodName := ⟨"ReplacementWriter$Writing", "peek", "(II)I"⟩
theorem d_Writing_peek_0 : decode b_Writing_peek 0 = .ok (.iload_n 1, 1) := by decide +kernel
theorem d_Writing_peek_1 : decode b_Writing_peek 1 = .ok (.iload_n 2, 1) := by decide +kernel
theorem d_Writing_peek_2 : decode b_Writing_peek 2 = .ok (.if_icmp .ge 14, 3) := by decide +kernel
theorem d_Writing_peek_5 : decode b_Writing_peek 5 = .ok (.aload_n 0, 1) := by decide +kernel
theorem d_Writing_peek_6 : decode b_Writing_peek 6 = .ok (.getfield 28, 3) := by decide +kernel
theorem d_Writing_peek_9 : decode b_Writing_peek 9 = .ok (.iload_n 1, 1) := by decide +kernel
theorem d_Writing_peek_10 : decode b_Writing_peek 10 = .ok (.invokevirtual 59, 3) := by decide +kernel
theorem d_Writing_peek_13 : decode b_Writing_peek 13 = .ok (.goto 4, 3) := by decide +kernel
theorem d_Writing_peek_16 : decode b_Writing_peek 16 = .ok (.iconst (-1), 1) := by decide +kernel
theorem d_Writing_peek_17 : decode b_Writing_peek 17 = .ok (.ireturn, 1) := by decide +kernel
abbrev b_Writing_writeMark : ByteArray := prog_11_method_10_code
abbrev y_Writing_writeMark : MethodName := ⟨"ReplacementWriter$Writing", "writeMark", "(IIZ)I"⟩
theorem d_Writing_writeMark_0 : decode b_Writing_writeMark 0 = .ok (.iload_n 3, 1) := by decide +kernel
theorem d_Writing_writeMark_1 : decode b_Writing_writeMark 1 = .ok (.ifCond .eq 9, 3) := by decide +kernel
theorem d_Writing_writeMark_4 : decode b_Writing_writeMark 4 = .ok (.iload_n 1, 1) := by decide +kernel
theorem d_Writing_writeMark_5 : decode b_Writing_writeMark 5 = .ok (.iconst 3, 1) := by decide +kernel
theorem d_Writing_writeMark_6 : decode b_Writing_writeMark 6 = .ok (.iadd, 1) := by decide +kernel
theorem d_Writing_writeMark_7 : decode b_Writing_writeMark 7 = .ok (.goto 6, 3) := by decide +kernel
theorem d_Writing_writeMark_10 : decode b_Writing_writeMark 10 = .ok (.iload_n 1, 1) := by decide +kernel
theorem d_Writing_writeMark_11 : decode b_Writing_writeMark 11 = .ok (.iconst 2, 1) := by decide +kernel
theorem d_Writing_writeMark_12 : decode b_Writing_writeMark 12 = .ok (.iadd, 1) := by decide +kernel
theorem d_Writing_writeMark_13 : decode b_Writing_writeMark 13 = .ok (.istore 4, 2) := by decide +kernel
theorem d_Writing_writeMark_15 : decode b_Writing_writeMark 15 = .ok (.iload 4, 2) := by decide +kernel
theorem d_Writing_writeMark_17 : decode b_Writing_writeMark 17 = .ok (.iconst 4, 1) := by decide +kernel
theorem d_Writing_writeMark_18 : decode b_Writing_writeMark 18 = .ok (.iadd, 1) := by decide +kernel
theorem d_Writing_writeMark_19 : decode b_Writing_writeMark 19 = .ok (.istore 5, 2) := by decide +kernel
theorem d_Writing_writeMark_21 : decode b_Writing_writeMark 21 = .ok (.aload_n 0, 1) := by decide +kernel
theorem d_Writing_writeMark_22 : decode b_Writing_writeMark 22 = .ok (.iload 4, 2) := by decide +kernel
theorem d_Writing_writeMark_24 : decode b_Writing_writeMark 24 = .ok (.iload_n 2, 1) := by decide +kernel
theorem d_Writing_writeMark_25 : decode b_Writing_writeMark 25 = .ok (.invokevirtual 101, 3) := by decide +kernel
theorem d_Writing_writeMark_28 : decode b_Writing_writeMark 28 = .ok (.bipush 77, 2) := by decide +kernel
theorem d_Writing_writeMark_30 : decode b_Writing_writeMark 30 = .ok (.if_icmp .ne 49, 3) := by decide +kernel
theorem d_Writing_writeMark_33 : decode b_Writing_writeMark 33 = .ok (.aload_n 0, 1) := by decide +kernel
theorem d_Writing_writeMark_34 : decode b_Writing_writeMark 34 = .ok (.iload 4, 2) := by decide +kernel
theorem d_Writing_writeMark_36 : decode b_Writing_writeMark 36 = .ok (.iconst 1, 1) := by decide +kernel
theorem d_Writing_writeMark_37 : decode b_Writing_writeMark 37 = .ok (.iadd, 1) := by decide +kernel
theorem d_Writing_writeMark_38 : decode b_Writing_writeMark 38 = .ok (.iload_n 2, 1) := by decide +kernel
theorem d_Writing_writeMark_39 : decode b_Writing_writeMark 39 = .ok (.invokevirtual 101, 3) := by decide +kernel
theorem d_Writing_writeMark_42 : decode b_Writing_writeMark 42 = .ok (.bipush 65, 2) := by decide +kernel
theorem d_Writing_writeMark_44 : decode b_Writing_writeMark 44 = .ok (.if_icmp .ne 35, 3) := by decide +kernel
theorem d_Writing_writeMark_47 : decode b_Writing_writeMark 47 = .ok (.aload_n 0, 1) := by decide +kernel
theorem d_Writing_writeMark_48 : decode b_Writing_writeMark 48 = .ok (.iload 4, 2) := by decide +kernel
theorem d_Writing_writeMark_50 : decode b_Writing_writeMark 50 = .ok (.iconst 2, 1) := by decide +kernel
theorem d_Writing_writeMark_51 : decode b_Writing_writeMark 51 = .ok (.iadd, 1) := by decide +kernel
theorem d_Writing_writeMark_52 : decode b_Writing_writeMark 52 = .ok (.iload_n 2, 1) := by decide +kernel
theorem d_Writing_writeMark_53 : decode b_Writing_writeMark 53 = .ok (.invokevirtual 101, 3) := by decide +kernel
theorem d_Writing_writeMark_56 : decode b_Writing_writeMark 56 = .ok (.bipush 82, 2) := by decide +kernel
theorem d_Writing_writeMark_58 : decode b_Writing_writeMark 58 = .ok (.if_icmp .ne 21, 3) := by decide +kernel
theorem d_Writing_writeMark_61 : decode b_Writing_writeMark 61 = .ok (.aload_n 0, 1) := by decide +kernel
theorem d_Writing_writeMark_62 : decode b_Writing_writeMark 62 = .ok (.iload 4, 2) := by decide +kernel
theorem d_Writing_writeMark_64 : decode b_Writing_writeMark 64 = .ok (.iconst 3, 1) := by decide +kernel
theorem d_Writing_writeMark_65 : decode b_Writing_writeMark 65 = .ok (.iadd, 1) := by decide +kernel
theorem d_Writing_writeMark_66 : decode b_Writing_writeMark 66 = .ok (.iload_n 2, 1) := by decide +kernel
theorem d_Writing_writeMark_67 : decode b_Writing_writeMark 67 = .ok (.invokevirtual 101, 3) := by decide +kernel
theorem d_Writing_writeMark_70 : decode b_Writing_writeMark 70 = .ok (.bipush 75, 2) := by decide +kernel
theorem d_Writing_writeMark_72 : decode b_Writing_writeMark 72 = .ok (.if_icmp .ne 7, 3) := by decide +kernel
theorem d_Writing_writeMark_75 : decode b_Writing_writeMark 75 = .ok (.iconst 1, 1) := by decide +kernel
theorem d_Writing_writeMark_76 : decode b_Writing_writeMark 76 = .ok (.goto 4, 3) := by decide +kernel
theorem d_Writing_writeMark_79 : decode b_Writing_writeMark 79 = .ok (.iconst 0, 1) := by decide +kernel
theorem d_Writing_writeMark_80 : decode b_Writing_writeMark 80 = .ok (.istore 6, 2) := by decide +kernel
theorem d_Writing_writeMark_82 : decode b_Writing_writeMark 82 = .ok (.iload 6, 2) := by decide +kernel
theorem d_Writing_writeMark_84 : decode b_Writing_writeMark 84 = .ok (.ifCond .ne 11, 3) := by decide +kernel
theorem d_Writing_writeMark_87 : decode b_Writing_writeMark 87 = .ok (.aload_n 0, 1) := by decide +kernel
theorem d_Writing_writeMark_88 : decode b_Writing_writeMark 88 = .ok (.bipush (-35), 2) := by decide +kernel
theorem d_Writing_writeMark_90 : decode b_Writing_writeMark 90 = .ok (.iload_n 1, 1) := by decide +kernel
theorem d_Writing_writeMark_91 : decode b_Writing_writeMark 91 = .ok (.invokevirtual 80, 3) := by decide +kernel
theorem d_Writing_writeMark_94 : decode b_Writing_writeMark 94 = .ok (.ireturn, 1) := by decide +kernel
theorem d_Writing_writeMark_95 : decode b_Writing_writeMark 95 = .ok (.iload_n 3, 1) := by decide +kernel
theorem d_Writing_writeMark_96 : decode b_Writing_writeMark 96 = .ok (.ifCond .eq 23, 3) := by decide +kernel
theorem d_Writing_writeMark_99 : decode b_Writing_writeMark 99 = .ok (.aload_n 0, 1) := by decide +kernel
theorem d_Writing_writeMark_100 : decode b_Writing_writeMark 100 = .ok (.iload 5, 2) := by decide +kernel
theorem d_Writing_writeMark_102 : decode b_Writing_writeMark 102 = .ok (.iload_n 2, 1) := by decide +kernel
theorem d_Writing_writeMark_103 : decode b_Writing_writeMark 103 = .ok (.invokevirtual 101, 3) := by decide +kernel
theorem d_Writing_writeMark_106 : decode b_Writing_writeMark 106 = .ok (.bipush 125, 2) := by decide +kernel
theorem d_Writing_writeMark_108 : decode b_Writing_writeMark 108 = .ok (.if_icmp .eq 11, 3) := by decide +kernel
theorem d_Writing_writeMark_111 : decode b_Writing_writeMark 111 = .ok (.aload_n 0, 1) := by decide +kernel
theorem d_Writing_writeMark_112 : decode b_Writing_writeMark 112 = .ok (.bipush (-58), 2) := by decide +kernel
theorem d_Writing_writeMark_114 : decode b_Writing_writeMark 114 = .ok (.iload_n 1, 1) := by decide +kernel
theorem d_Writing_writeMark_115 : decode b_Writing_writeMark 115 = .ok (.invokevirtual 80, 3) := by decide +kernel
theorem d_Writing_writeMark_118 : decode b_Writing_writeMark 118 = .ok (.ireturn, 1) := by decide +kernel
theorem d_Writing_writeMark_119 : decode b_Writing_writeMark 119 = .ok (.aload_n 0, 1) := by decide +kernel
theorem d_Writing_writeMark_120 : decode b_Writing_writeMark 120 = .ok (.getfield 36, 3) := by decide +kernel
theorem d_Writing_writeMark_123 : decode b_Writing_writeMark 123 = .ok (.aload_n 0, 1) := by decide +kernel
theorem d_Writing_writeMark_124 : decode b_Writing_writeMark 124 = .ok (.getfield 32, 3) := by decide +kernel
theorem d_Writing_writeMark_127 : decode b_Writing_writeMark 127 = .ok (.invokevirtual 119, 3) := by decide +kernel
theorem d_Writing_writeMark_130 : decode b_Writing_writeMark 130 = .ok (.iconst 0, 1) := by decide +kernel
theorem d_Writing_writeMark_131 : decode b_Writing_writeMark 131 = .ok (.aload_n 0, 1) := by decide +kernel
theorem d_Writing_writeMark_132 : decode b_Writing_writeMark 132 = .ok (.getfield 32, 3) := by decide +kernel
theorem d_Writing_writeMark_135 : decode b_Writing_writeMark 135 = .ok (.invokevirtual 119, 3) := by decide +kernel
theorem d_Writing_writeMark_138 : decode b_Writing_writeMark 138 = .ok (.invokevirtual 53, 3) := by decide +kernel
theorem d_Writing_writeMark_141 : decode b_Writing_writeMark 141 = .ok (.invokevirtual 125, 3) := by decide +kernel
theorem d_Writing_writeMark_144 : decode b_Writing_writeMark 144 = .ok (.iload_n 3, 1) := by decide +kernel
theorem d_Writing_writeMark_145 : decode b_Writing_writeMark 145 = .ok (.ifCond .eq 10, 3) := by decide +kernel
theorem d_Writing_writeMark_148 : decode b_Writing_writeMark 148 = .ok (.iload 5, 2) := by decide +kernel
theorem d_Writing_writeMark_150 : decode b_Writing_writeMark 150 = .ok (.iconst 1, 1) := by decide +kernel
theorem d_Writing_writeMark_151 : decode b_Writing_writeMark 151 = .ok (.iadd, 1) := by decide +kernel
theorem d_Writing_writeMark_152 : decode b_Writing_writeMark 152 = .ok (.goto 5, 3) := by decide +kernel
theorem d_Writing_writeMark_155 : decode b_Writing_writeMark 155 = .ok (.iload 5, 2) := by decide +kernel
theorem d_Writing_writeMark_157 : decode b_Writing_writeMark 157 = .ok (.ireturn, 1) := by decide +kernel
abbrev b_Writing_referenceEnd : ByteArray := prog_11_method_11_code
abbrev y_Writing_referenceEnd : MethodName := ⟨"ReplacementWriter$Writing", "referenceEnd", "(II)I"⟩
theorem d_Writing_referenceEnd_0 : decode b_Writing_referenceEnd 0 = .ok (.iload_n 1, 1) := by decide +kernel
theorem d_Writing_referenceEnd_1 : decode b_Writing_referenceEnd 1 = .ok (.istore_n 3, 1) := by decide +kernel
theorem d_Writing_referenceEnd_2 : decode b_Writing_referenceEnd 2 = .ok (.aload_n 0, 1) := by decide +kernel
theorem d_Writing_referenceEnd_3 : decode b_Writing_referenceEnd 3 = .ok (.iload_n 1, 1) := by decide +kernel
theorem d_Writing_referenceEnd_4 : decode b_Writing_referenceEnd 4 = .ok (.iload_n 2, 1) := by decide +kernel
theorem d_Writing_referenceEnd_5 : decode b_Writing_referenceEnd 5 = .ok (.invokevirtual 101, 3) := by decide +kernel
theorem d_Writing_referenceEnd_8 : decode b_Writing_referenceEnd 8 = .ok (.invokestatic 129, 3) := by decide +kernel
theorem d_Writing_referenceEnd_11 : decode b_Writing_referenceEnd 11 = .ok (.ifCond .eq 30, 3) := by decide +kernel
theorem d_Writing_referenceEnd_14 : decode b_Writing_referenceEnd 14 = .ok (.iload_n 3, 1) := by decide +kernel
theorem d_Writing_referenceEnd_15 : decode b_Writing_referenceEnd 15 = .ok (.iload_n 2, 1) := by decide +kernel
theorem d_Writing_referenceEnd_16 : decode b_Writing_referenceEnd 16 = .ok (.if_icmp .ge 23, 3) := by decide +kernel
theorem d_Writing_referenceEnd_19 : decode b_Writing_referenceEnd 19 = .ok (.aload_n 0, 1) := by decide +kernel
theorem d_Writing_referenceEnd_20 : decode b_Writing_referenceEnd 20 = .ok (.getfield 28, 3) := by decide +kernel
theorem d_Writing_referenceEnd_23 : decode b_Writing_referenceEnd 23 = .ok (.iload_n 3, 1) := by decide +kernel
theorem d_Writing_referenceEnd_24 : decode b_Writing_referenceEnd 24 = .ok (.invokevirtual 59, 3) := by decide +kernel
theorem d_Writing_referenceEnd_27 : decode b_Writing_referenceEnd 27 = .ok (.invokestatic 129, 3) := by decide +kernel
theorem d_Writing_referenceEnd_30 : decode b_Writing_referenceEnd 30 = .ok (.ifCond .eq 9, 3) := by decide +kernel
theorem d_Writing_referenceEnd_33 : decode b_Writing_referenceEnd 33 = .ok (.iinc 3 1, 3) := by decide +kernel
theorem d_Writing_referenceEnd_36 : decode b_Writing_referenceEnd 36 = .ok (.goto (-22), 3) := by decide +kernel
theorem d_Writing_referenceEnd_39 : decode b_Writing_referenceEnd 39 = .ok (.iload_n 3, 1) := by decide +kernel
theorem d_Writing_referenceEnd_40 : decode b_Writing_referenceEnd 40 = .ok (.ireturn, 1) := by decide +kernel
theorem d_Writing_referenceEnd_41 : decode b_Writing_referenceEnd 41 = .ok (.iload_n 2, 1) := by decide +kernel
theorem d_Writing_referenceEnd_42 : decode b_Writing_referenceEnd 42 = .ok (.iload_n 1, 1) := by decide +kernel
theorem d_Writing_referenceEnd_43 : decode b_Writing_referenceEnd 43 = .ok (.bipush 32, 2) := by decide +kernel
theorem d_Writing_referenceEnd_45 : decode b_Writing_referenceEnd 45 = .ok (.iadd, 1) := by decide +kernel
theorem d_Writing_referenceEnd_46 : decode b_Writing_referenceEnd 46 = .ok (.invokestatic 135, 3) := by decide +kernel
theorem d_Writing_referenceEnd_49 : decode b_Writing_referenceEnd 49 = .ok (.istore 4, 2) := by decide +kernel
theorem d_Writing_referenceEnd_51 : decode b_Writing_referenceEnd 51 = .ok (.iload_n 3, 1) := by decide +kernel
theorem d_Writing_referenceEnd_52 : decode b_Writing_referenceEnd 52 = .ok (.iload 4, 2) := by decide +kernel
theorem d_Writing_referenceEnd_54 : decode b_Writing_referenceEnd 54 = .ok (.if_icmp .ge 23, 3) := by decide +kernel
theorem d_Writing_referenceEnd_57 : decode b_Writing_referenceEnd 57 = .ok (.aload_n 0, 1) := by decide +kernel
theorem d_Writing_referenceEnd_58 : decode b_Writing_referenceEnd 58 = .ok (.getfield 28, 3) := by decide +kernel
theorem d_Writing_referenceEnd_61 : decode b_Writing_referenceEnd 61 = .ok (.iload_n 3, 1) := by decide +kernel
theorem d_Writing_referenceEnd_62 : decode b_Writing_referenceEnd 62 = .ok (.invokevirtual 59, 3) := by decide +kernel
theorem d_Writing_referenceEnd_65 : decode b_Writing_referenceEnd 65 = .ok (.invokestatic 138, 3) := by decide +kernel
theorem d_Writing_referenceEnd_68 : decode b_Writing_referenceEnd 68 = .ok (.ifCond .eq 9, 3) := by decide +kernel
theorem d_Writing_referenceEnd_71 : decode b_Writing_referenceEnd 71 = .ok (.iinc 3 1, 3) := by decide +kernel
theorem d_Writing_referenceEnd_74 : decode b_Writing_referenceEnd 74 = .ok (.goto (-23), 3) := by decide +kernel
theorem d_Writing_referenceEnd_77 : decode b_Writing_referenceEnd 77 = .ok (.iload_n 3, 1) := by decide +kernel
theorem d_Writing_referenceEnd_78 : decode b_Writing_referenceEnd 78 = .ok (.ireturn, 1) := by decide +kernel
abbrev b_Writing_writeGroup : ByteArray := prog_11_method_13_code
abbrev y_Writing_writeGroup : MethodName := ⟨"ReplacementWriter$Writing", "writeGroup", "(IIII)I"⟩
theorem d_Writing_writeGroup_0 : decode b_Writing_writeGroup 0 = .ok (.aload_n 0, 1) := by decide +kernel
theorem d_Writing_writeGroup_1 : decode b_Writing_writeGroup 1 = .ok (.iload_n 2, 1) := by decide +kernel
theorem d_Writing_writeGroup_2 : decode b_Writing_writeGroup 2 = .ok (.iload_n 3, 1) := by decide +kernel
theorem d_Writing_writeGroup_3 : decode b_Writing_writeGroup 3 = .ok (.invokevirtual 149, 3) := by decide +kernel
theorem d_Writing_writeGroup_6 : decode b_Writing_writeGroup 6 = .ok (.istore 5, 2) := by decide +kernel
theorem d_Writing_writeGroup_8 : decode b_Writing_writeGroup 8 = .ok (.iload 5, 2) := by decide +kernel
theorem d_Writing_writeGroup_10 : decode b_Writing_writeGroup 10 = .ok (.bipush (-2), 2) := by decide +kernel
theorem d_Writing_writeGroup_12 : decode b_Writing_writeGroup 12 = .ok (.if_icmp .ne 11, 3) := by decide +kernel
theorem d_Writing_writeGroup_15 : decode b_Writing_writeGroup 15 = .ok (.aload_n 0, 1) := by decide +kernel
theorem d_Writing_writeGroup_16 : decode b_Writing_writeGroup 16 = .ok (.bipush (-49), 2) := by decide +kernel
theorem d_Writing_writeGroup_18 : decode b_Writing_writeGroup 18 = .ok (.iload_n 1, 1) := by decide +kernel
theorem d_Writing_writeGroup_19 : decode b_Writing_writeGroup 19 = .ok (.invokevirtual 80, 3) := by decide +kernel
theorem d_Writing_writeGroup_22 : decode b_Writing_writeGroup 22 = .ok (.ireturn, 1) := by decide +kernel
theorem d_Writing_writeGroup_23 : decode b_Writing_writeGroup 23 = .ok (.iload 5, 2) := by decide +kernel
theorem d_Writing_writeGroup_25 : decode b_Writing_writeGroup 25 = .ok (.iconst (-1), 1) := by decide +kernel
theorem d_Writing_writeGroup_26 : decode b_Writing_writeGroup 26 = .ok (.if_icmp .ne 23, 3) := by decide +kernel
theorem d_Writing_writeGroup_29 : decode b_Writing_writeGroup 29 = .ok (.aload_n 0, 1) := by decide +kernel
theorem d_Writing_writeGroup_30 : decode b_Writing_writeGroup 30 = .ok (.getfield 15, 3) := by decide +kernel
theorem d_Writing_writeGroup_33 : decode b_Writing_writeGroup 33 = .ok (.ifCond .eq 8, 3) := by decide +kernel
theorem d_Writing_writeGroup_36 : decode b_Writing_writeGroup 36 = .ok (.iload 4, 2) := by decide +kernel
theorem d_Writing_writeGroup_38 : decode b_Writing_writeGroup 38 = .ok (.goto 10, 3) := by decide +kernel
theorem d_Writing_writeGroup_41 : decode b_Writing_writeGroup 41 = .ok (.aload_n 0, 1) := by decide +kernel
theorem d_Writing_writeGroup_42 : decode b_Writing_writeGroup 42 = .ok (.bipush (-55), 2) := by decide +kernel
theorem d_Writing_writeGroup_44 : decode b_Writing_writeGroup 44 = .ok (.iload_n 1, 1) := by decide +kernel
theorem d_Writing_writeGroup_45 : decode b_Writing_writeGroup 45 = .ok (.invokevirtual 80, 3) := by decide +kernel
theorem d_Writing_writeGroup_48 : decode b_Writing_writeGroup 48 = .ok (.ireturn, 1) := by decide +kernel
theorem d_Writing_writeGroup_49 : decode b_Writing_writeGroup 49 = .ok (.aload_n 0, 1) := by decide +kernel
theorem d_Writing_writeGroup_50 : decode b_Writing_writeGroup 50 = .ok (.getfield 36, 3) := by decide +kernel
theorem d_Writing_writeGroup_53 : decode b_Writing_writeGroup 53 = .ok (.aload_n 0, 1) := by decide +kernel
theorem d_Writing_writeGroup_54 : decode b_Writing_writeGroup 54 = .ok (.getfield 32, 3) := by decide +kernel
theorem d_Writing_writeGroup_57 : decode b_Writing_writeGroup 57 = .ok (.iload 5, 2) := by decide +kernel
theorem d_Writing_writeGroup_59 : decode b_Writing_writeGroup 59 = .ok (.invokevirtual 152, 3) := by decide +kernel
theorem d_Writing_writeGroup_62 : decode b_Writing_writeGroup 62 = .ok (.iconst 0, 1) := by decide +kernel
theorem d_Writing_writeGroup_63 : decode b_Writing_writeGroup 63 = .ok (.aload_n 0, 1) := by decide +kernel
theorem d_Writing_writeGroup_64 : decode b_Writing_writeGroup 64 = .ok (.getfield 32, 3) := by decide +kernel
theorem d_Writing_writeGroup_67 : decode b_Writing_writeGroup 67 = .ok (.iload 5, 2) := by decide +kernel
theorem d_Writing_writeGroup_69 : decode b_Writing_writeGroup 69 = .ok (.invokevirtual 152, 3) := by decide +kernel
theorem d_Writing_writeGroup_72 : decode b_Writing_writeGroup 72 = .ok (.invokevirtual 53, 3) := by decide +kernel
theorem d_Writing_writeGroup_75 : decode b_Writing_writeGroup 75 = .ok (.invokevirtual 125, 3) := by decide +kernel
theorem d_Writing_writeGroup_78 : decode b_Writing_writeGroup 78 = .ok (.iload 4, 2) := by decide +kernel
theorem d_Writing_writeGroup_80 : decode b_Writing_writeGroup 80 = .ok (.ireturn, 1) := by decide +kernel
abbrev b_Writing_groupFor : ByteArray := prog_11_method_12_code
abbrev y_Writing_groupFor : MethodName := ⟨"ReplacementWriter$Writing", "groupFor", "(II)I"⟩
theorem d_Writing_groupFor_0 : decode b_Writing_groupFor 0 = .ok (.aload_n 0, 1) := by decide +kernel
theorem d_Writing_groupFor_1 : decode b_Writing_groupFor 1 = .ok (.getfield 28, 3) := by decide +kernel
theorem d_Writing_groupFor_4 : decode b_Writing_groupFor 4 = .ok (.iload_n 1, 1) := by decide +kernel
theorem d_Writing_groupFor_5 : decode b_Writing_groupFor 5 = .ok (.invokevirtual 59, 3) := by decide +kernel
theorem d_Writing_groupFor_8 : decode b_Writing_groupFor 8 = .ok (.invokestatic 129, 3) := by decide +kernel
theorem d_Writing_groupFor_11 : decode b_Writing_groupFor 11 = .ok (.ifCond .eq 59, 3) := by decide +kernel
theorem d_Writing_groupFor_14 : decode b_Writing_groupFor 14 = .ok (.iconst 0, 1) := by decide +kernel
theorem d_Writing_groupFor_15 : decode b_Writing_groupFor 15 = .ok (.istore 4, 2) := by decide +kernel
theorem d_Writing_groupFor_17 : decode b_Writing_groupFor 17 = .ok (.iload_n 1, 1) := by decide +kernel
theorem d_Writing_groupFor_18 : decode b_Writing_groupFor 18 = .ok (.istore 5, 2) := by decide +kernel
theorem d_Writing_groupFor_20 : decode b_Writing_groupFor 20 = .ok (.iload 5, 2) := by decide +kernel
theorem d_Writing_groupFor_22 : decode b_Writing_groupFor 22 = .ok (.iload_n 2, 1) := by decide +kernel
theorem d_Writing_groupFor_23 : decode b_Writing_groupFor 23 = .ok (.if_icmp .ge 34, 3) := by decide +kernel
theorem d_Writing_groupFor_26 : decode b_Writing_groupFor 26 = .ok (.ldc 141, 2) := by decide +kernel
theorem d_Writing_groupFor_28 : decode b_Writing_groupFor 28 = .ok (.iload 4, 2) := by decide +kernel
theorem d_Writing_groupFor_30 : decode b_Writing_groupFor 30 = .ok (.bipush 10, 2) := by decide +kernel
theorem d_Writing_groupFor_32 : decode b_Writing_groupFor 32 = .ok (.imul, 1) := by decide +kernel
theorem d_Writing_groupFor_33 : decode b_Writing_groupFor 33 = .ok (.aload_n 0, 1) := by decide +kernel
theorem d_Writing_groupFor_34 : decode b_Writing_groupFor 34 = .ok (.getfield 28, 3) := by decide +kernel
theorem d_Writing_groupFor_37 : decode b_Writing_groupFor 37 = .ok (.iload 5, 2) := by decide +kernel
theorem d_Writing_groupFor_39 : decode b_Writing_groupFor 39 = .ok (.invokevirtual 59, 3) := by decide +kernel
theorem d_Writing_groupFor_42 : decode b_Writing_groupFor 42 = .ok (.iadd, 1) := by decide +kernel
theorem d_Writing_groupFor_43 : decode b_Writing_groupFor 43 = .ok (.bipush 48, 2) := by decide +kernel
theorem d_Writing_groupFor_45 : decode b_Writing_groupFor 45 = .ok (.isub, 1) := by decide +kernel
theorem d_Writing_groupFor_46 : decode b_Writing_groupFor 46 = .ok (.invokestatic 135, 3) := by decide +kernel
theorem d_Writing_groupFor_49 : decode b_Writing_groupFor 49 = .ok (.istore 4, 2) := by decide +kernel
theorem d_Writing_groupFor_51 : decode b_Writing_groupFor 51 = .ok (.iinc 5 1, 3) := by decide +kernel
theorem d_Writing_groupFor_54 : decode b_Writing_groupFor 54 = .ok (.goto (-34), 3) := by decide +kernel
theorem d_Writing_groupFor_57 : decode b_Writing_groupFor 57 = .ok (.aload_n 0, 1) := by decide +kernel
theorem d_Writing_groupFor_58 : decode b_Writing_groupFor 58 = .ok (.getfield 32, 3) := by decide +kernel
theorem d_Writing_groupFor_61 : decode b_Writing_groupFor 61 = .ok (.iload 4, 2) := by decide +kernel
theorem d_Writing_groupFor_63 : decode b_Writing_groupFor 63 = .ok (.invokevirtual 142, 3) := by decide +kernel
theorem d_Writing_groupFor_66 : decode b_Writing_groupFor 66 = .ok (.istore_n 3, 1) := by decide +kernel
theorem d_Writing_groupFor_67 : decode b_Writing_groupFor 67 = .ok (.goto 17, 3) := by decide +kernel
theorem d_Writing_groupFor_70 : decode b_Writing_groupFor 70 = .ok (.aload_n 0, 1) := by decide +kernel
theorem d_Writing_groupFor_71 : decode b_Writing_groupFor 71 = .ok (.getfield 32, 3) := by decide +kernel
theorem d_Writing_groupFor_74 : decode b_Writing_groupFor 74 = .ok (.aload_n 0, 1) := by decide +kernel
theorem d_Writing_groupFor_75 : decode b_Writing_groupFor 75 = .ok (.getfield 28, 3) := by decide +kernel
theorem d_Writing_groupFor_78 : decode b_Writing_groupFor 78 = .ok (.iload_n 1, 1) := by decide +kernel
theorem d_Writing_groupFor_79 : decode b_Writing_groupFor 79 = .ok (.iload_n 2, 1) := by decide +kernel
theorem d_Writing_groupFor_80 : decode b_Writing_groupFor 80 = .ok (.invokevirtual 145, 3) := by decide +kernel
theorem d_Writing_groupFor_83 : decode b_Writing_groupFor 83 = .ok (.istore_n 3, 1) := by decide +kernel
theorem d_Writing_groupFor_84 : decode b_Writing_groupFor 84 = .ok (.iload_n 3, 1) := by decide +kernel
theorem d_Writing_groupFor_85 : decode b_Writing_groupFor 85 = .ok (.bipush (-2), 2) := by decide +kernel
theorem d_Writing_groupFor_87 : decode b_Writing_groupFor 87 = .ok (.if_icmp .ne 14, 3) := by decide +kernel
theorem d_Writing_groupFor_90 : decode b_Writing_groupFor 90 = .ok (.aload_n 0, 1) := by decide +kernel
theorem d_Writing_groupFor_91 : decode b_Writing_groupFor 91 = .ok (.getfield 18, 3) := by decide +kernel
theorem d_Writing_groupFor_94 : decode b_Writing_groupFor 94 = .ok (.ifCond .eq 7, 3) := by decide +kernel
theorem d_Writing_groupFor_97 : decode b_Writing_groupFor 97 = .ok (.iconst (-1), 1) := by decide +kernel
theorem d_Writing_groupFor_98 : decode b_Writing_groupFor 98 = .ok (.goto 4, 3) := by decide +kernel
theorem d_Writing_groupFor_101 : decode b_Writing_groupFor 101 = .ok (.iload_n 3, 1) := by decide +kernel
theorem d_Writing_groupFor_102 : decode b_Writing_groupFor 102 = .ok (.ireturn, 1) := by decide +kernel
abbrev b_Writing_writeChoice : ByteArray := prog_11_method_14_code
abbrev y_Writing_writeChoice : MethodName := ⟨"ReplacementWriter$Writing", "writeChoice", "(IIIII)I"⟩
theorem d_Writing_writeChoice_0 : decode b_Writing_writeChoice 0 = .ok (.aload_n 0, 1) := by decide +kernel
theorem d_Writing_writeChoice_1 : decode b_Writing_writeChoice 1 = .ok (.iload_n 3, 1) := by decide +kernel
theorem d_Writing_writeChoice_2 : decode b_Writing_writeChoice 2 = .ok (.iconst 1, 1) := by decide +kernel
theorem d_Writing_writeChoice_3 : decode b_Writing_writeChoice 3 = .ok (.iadd, 1) := by decide +kernel
theorem d_Writing_writeChoice_4 : decode b_Writing_writeChoice 4 = .ok (.iload 4, 2) := by decide +kernel
theorem d_Writing_writeChoice_6 : decode b_Writing_writeChoice 6 = .ok (.invokevirtual 101, 3) := by decide +kernel
theorem d_Writing_writeChoice_9 : decode b_Writing_writeChoice 9 = .ok (.bipush 45, 2) := by decide +kernel
theorem d_Writing_writeChoice_11 : decode b_Writing_writeChoice 11 = .ok (.if_icmp .ne 7, 3) := by decide +kernel
theorem d_Writing_writeChoice_14 : decode b_Writing_writeChoice 14 = .ok (.iconst 1, 1) := by decide +kernel
theorem d_Writing_writeChoice_15 : decode b_Writing_writeChoice 15 = .ok (.goto 4, 3) := by decide +kernel
theorem d_Writing_writeChoice_18 : decode b_Writing_writeChoice 18 = .ok (.iconst 0, 1) := by decide +kernel
theorem d_Writing_writeChoice_19 : decode b_Writing_writeChoice 19 = .ok (.istore 6, 2) := by decide +kernel
theorem d_Writing_writeChoice_21 : decode b_Writing_writeChoice 21 = .ok (.iload_n 3, 1) := by decide +kernel
theorem d_Writing_writeChoice_22 : decode b_Writing_writeChoice 22 = .ok (.iconst 2, 1) := by decide +kernel
theorem d_Writing_writeChoice_23 : decode b_Writing_writeChoice 23 = .ok (.iadd, 1) := by decide +kernel
theorem d_Writing_writeChoice_24 : decode b_Writing_writeChoice 24 = .ok (.istore 7, 2) := by decide +kernel
theorem d_Writing_writeChoice_26 : decode b_Writing_writeChoice 26 = .ok (.aload_n 0, 1) := by decide +kernel
theorem d_Writing_writeChoice_27 : decode b_Writing_writeChoice 27 = .ok (.iload 7, 2) := by decide +kernel
theorem d_Writing_writeChoice_29 : decode b_Writing_writeChoice 29 = .ok (.iload 4, 2) := by decide +kernel
theorem d_Writing_writeChoice_31 : decode b_Writing_writeChoice 31 = .ok (.iload 6, 2) := by decide +kernel
theorem d_Writing_writeChoice_33 : decode b_Writing_writeChoice 33 = .ok (.ifCond .ne 7, 3) := by decide +kernel
theorem d_Writing_writeChoice_36 : decode b_Writing_writeChoice 36 = .ok (.iconst 1, 1) := by decide +kernel
theorem d_Writing_writeChoice_37 : decode b_Writing_writeChoice 37 = .ok (.goto 4, 3) := by decide +kernel
theorem d_Writing_writeChoice_40 : decode b_Writing_writeChoice 40 = .ok (.iconst 0, 1) := by decide +kernel
theorem d_Writing_writeChoice_41 : decode b_Writing_writeChoice 41 = .ok (.invokevirtual 156, 3) := by decide +kernel
theorem d_Writing_writeChoice_44 : decode b_Writing_writeChoice 44 = .ok (.istore 8, 2) := by decide +kernel
theorem d_Writing_writeChoice_46 : decode b_Writing_writeChoice 46 = .ok (.aload_n 0, 1) := by decide +kernel
theorem d_Writing_writeChoice_47 : decode b_Writing_writeChoice 47 = .ok (.iload 8, 2) := by decide +kernel
theorem d_Writing_writeChoice_49 : decode b_Writing_writeChoice 49 = .ok (.iload 4, 2) := by decide +kernel
theorem d_Writing_writeChoice_51 : decode b_Writing_writeChoice 51 = .ok (.invokevirtual 101, 3) := by decide +kernel
theorem d_Writing_writeChoice_54 : decode b_Writing_writeChoice 54 = .ok (.bipush 58, 2) := by decide +kernel
theorem d_Writing_writeChoice_56 : decode b_Writing_writeChoice 56 = .ok (.if_icmp .ne 7, 3) := by decide +kernel
theorem d_Writing_writeChoice_59 : decode b_Writing_writeChoice 59 = .ok (.iconst 1, 1) := by decide +kernel
theorem d_Writing_writeChoice_60 : decode b_Writing_writeChoice 60 = .ok (.goto 4, 3) := by decide +kernel
theorem d_Writing_writeChoice_63 : decode b_Writing_writeChoice 63 = .ok (.iconst 0, 1) := by decide +kernel
theorem d_Writing_writeChoice_64 : decode b_Writing_writeChoice 64 = .ok (.istore 9, 2) := by decide +kernel
theorem d_Writing_writeChoice_66 : decode b_Writing_writeChoice 66 = .ok (.iload 9, 2) := by decide +kernel
theorem d_Writing_writeChoice_68 : decode b_Writing_writeChoice 68 = .ok (.ifCond .eq 17, 3) := by decide +kernel
theorem d_Writing_writeChoice_71 : decode b_Writing_writeChoice 71 = .ok (.aload_n 0, 1) := by decide +kernel
theorem d_Writing_writeChoice_72 : decode b_Writing_writeChoice 72 = .ok (.iload 8, 2) := by decide +kernel
theorem d_Writing_writeChoice_74 : decode b_Writing_writeChoice 74 = .ok (.iconst 1, 1) := by decide +kernel
theorem d_Writing_writeChoice_75 : decode b_Writing_writeChoice 75 = .ok (.iadd, 1) := by decide +kernel
theorem d_Writing_writeChoice_76 : decode b_Writing_writeChoice 76 = .ok (.iload 4, 2) := by decide +kernel
theorem d_Writing_writeChoice_78 : decode b_Writing_writeChoice 78 = .ok (.iconst 0, 1) := by decide +kernel
theorem d_Writing_writeChoice_79 : decode b_Writing_writeChoice 79 = .ok (.invokevirtual 156, 3) := by decide +kernel
theorem d_Writing_writeChoice_82 : decode b_Writing_writeChoice 82 = .ok (.goto 5, 3) := by decide +kernel
theorem d_Writing_writeChoice_85 : decode b_Writing_writeChoice 85 = .ok (.iload 8, 2) := by decide +kernel
theorem d_Writing_writeChoice_87 : decode b_Writing_writeChoice 87 = .ok (.istore 10, 2) := by decide +kernel
theorem d_Writing_writeChoice_89 : decode b_Writing_writeChoice 89 = .ok (.iload 10, 2) := by decide +kernel
theorem d_Writing_writeChoice_91 : decode b_Writing_writeChoice 91 = .ok (.iload 4, 2) := by decide +kernel
theorem d_Writing_writeChoice_93 : decode b_Writing_writeChoice 93 = .ok (.if_icmp .lt 11, 3) := by decide +kernel
theorem d_Writing_writeChoice_96 : decode b_Writing_writeChoice 96 = .ok (.aload_n 0, 1) := by decide +kernel
theorem d_Writing_writeChoice_97 : decode b_Writing_writeChoice 97 = .ok (.bipush (-58), 2) := by decide +kernel
theorem d_Writing_writeChoice_99 : decode b_Writing_writeChoice 99 = .ok (.iload_n 1, 1) := by decide +kernel
theorem d_Writing_writeChoice_100 : decode b_Writing_writeChoice 100 = .ok (.invokevirtual 80, 3) := by decide +kernel
theorem d_Writing_writeChoice_103 : decode b_Writing_writeChoice 103 = .ok (.ireturn, 1) := by decide +kernel
theorem d_Writing_writeChoice_104 : decode b_Writing_writeChoice 104 = .ok (.iload 5, 2) := by decide +kernel
theorem d_Writing_writeChoice_106 : decode b_Writing_writeChoice 106 = .ok (.bipush 20, 2) := by decide +kernel
theorem d_Writing_writeChoice_108 : decode b_Writing_writeChoice 108 = .ok (.if_icmp .lt 11, 3) := by decide +kernel
theorem d_Writing_writeChoice_111 : decode b_Writing_writeChoice 111 = .ok (.aload_n 0, 1) := by decide +kernel
theorem d_Writing_writeChoice_112 : decode b_Writing_writeChoice 112 = .ok (.bipush (-35), 2) := by decide +kernel
theorem d_Writing_writeChoice_114 : decode b_Writing_writeChoice 114 = .ok (.iload_n 1, 1) := by decide +kernel
theorem d_Writing_writeChoice_115 : decode b_Writing_writeChoice 115 = .ok (.invokevirtual 80, 3) := by decide +kernel
theorem d_Writing_writeChoice_118 : decode b_Writing_writeChoice 118 = .ok (.ireturn, 1) := by decide +kernel
theorem d_Writing_writeChoice_119 : decode b_Writing_writeChoice 119 = .ok (.aload_n 0, 1) := by decide +kernel
theorem d_Writing_writeChoice_120 : decode b_Writing_writeChoice 120 = .ok (.iload_n 2, 1) := by decide +kernel
theorem d_Writing_writeChoice_121 : decode b_Writing_writeChoice 121 = .ok (.iload_n 3, 1) := by decide +kernel
theorem d_Writing_writeChoice_122 : decode b_Writing_writeChoice 122 = .ok (.invokevirtual 149, 3) := by decide +kernel
theorem d_Writing_writeChoice_125 : decode b_Writing_writeChoice 125 = .ok (.istore 11, 2) := by decide +kernel
theorem d_Writing_writeChoice_127 : decode b_Writing_writeChoice 127 = .ok (.iload 11, 2) := by decide +kernel
theorem d_Writing_writeChoice_129 : decode b_Writing_writeChoice 129 = .ok (.bipush (-2), 2) := by decide +kernel
theorem d_Writing_writeChoice_131 : decode b_Writing_writeChoice 131 = .ok (.if_icmp .ne 11, 3) := by decide +kernel
theorem d_Writing_writeChoice_134 : decode b_Writing_writeChoice 134 = .ok (.aload_n 0, 1) := by decide +kernel
theorem d_Writing_writeChoice_135 : decode b_Writing_writeChoice 135 = .ok (.bipush (-49), 2) := by decide +kernel
theorem d_Writing_writeChoice_137 : decode b_Writing_writeChoice 137 = .ok (.iload_n 1, 1) := by decide +kernel
theorem d_Writing_writeChoice_138 : decode b_Writing_writeChoice 138 = .ok (.invokevirtual 80, 3) := by decide +kernel
theorem d_Writing_writeChoice_141 : decode b_Writing_writeChoice 141 = .ok (.ireturn, 1) := by decide +kernel
theorem d_Writing_writeChoice_142 : decode b_Writing_writeChoice 142 = .ok (.iload 11, 2) := by decide +kernel
theorem d_Writing_writeChoice_144 : decode b_Writing_writeChoice 144 = .ok (.iconst (-1), 1) := by decide +kernel
theorem d_Writing_writeChoice_145 : decode b_Writing_writeChoice 145 = .ok (.if_icmp .eq 7, 3) := by decide +kernel
theorem d_Writing_writeChoice_148 : decode b_Writing_writeChoice 148 = .ok (.iconst 1, 1) := by decide +kernel
theorem d_Writing_writeChoice_149 : decode b_Writing_writeChoice 149 = .ok (.goto 4, 3) := by decide +kernel
theorem d_Writing_writeChoice_152 : decode b_Writing_writeChoice 152 = .ok (.iconst 0, 1) := by decide +kernel
theorem d_Writing_writeChoice_153 : decode b_Writing_writeChoice 153 = .ok (.istore 12, 2) := by decide +kernel
theorem d_Writing_writeChoice_155 : decode b_Writing_writeChoice 155 = .ok (.iload 6, 2) := by decide +kernel
theorem d_Writing_writeChoice_157 : decode b_Writing_writeChoice 157 = .ok (.ifCond .eq 40, 3) := by decide +kernel
theorem d_Writing_writeChoice_160 : decode b_Writing_writeChoice 160 = .ok (.iload 12, 2) := by decide +kernel
theorem d_Writing_writeChoice_162 : decode b_Writing_writeChoice 162 = .ok (.ifCond .eq 35, 3) := by decide +kernel
theorem d_Writing_writeChoice_165 : decode b_Writing_writeChoice 165 = .ok (.aload_n 0, 1) := by decide +kernel
theorem d_Writing_writeChoice_166 : decode b_Writing_writeChoice 166 = .ok (.getfield 36, 3) := by decide +kernel
theorem d_Writing_writeChoice_169 : decode b_Writing_writeChoice 169 = .ok (.aload_n 0, 1) := by decide +kernel
theorem d_Writing_writeChoice_170 : decode b_Writing_writeChoice 170 = .ok (.getfield 32, 3) := by decide +kernel
theorem d_Writing_writeChoice_173 : decode b_Writing_writeChoice 173 = .ok (.iload 11, 2) := by decide +kernel
theorem d_Writing_writeChoice_175 : decode b_Writing_writeChoice 175 = .ok (.invokevirtual 152, 3) := by decide +kernel
theorem d_Writing_writeChoice_178 : decode b_Writing_writeChoice 178 = .ok (.iconst 0, 1) := by decide +kernel
theorem d_Writing_writeChoice_179 : decode b_Writing_writeChoice 179 = .ok (.aload_n 0, 1) := by decide +kernel
theorem d_Writing_writeChoice_180 : decode b_Writing_writeChoice 180 = .ok (.getfield 32, 3) := by decide +kernel
theorem d_Writing_writeChoice_183 : decode b_Writing_writeChoice 183 = .ok (.iload 11, 2) := by decide +kernel
theorem d_Writing_writeChoice_185 : decode b_Writing_writeChoice 185 = .ok (.invokevirtual 152, 3) := by decide +kernel
theorem d_Writing_writeChoice_188 : decode b_Writing_writeChoice 188 = .ok (.invokevirtual 53, 3) := by decide +kernel
theorem d_Writing_writeChoice_191 : decode b_Writing_writeChoice 191 = .ok (.invokevirtual 125, 3) := by decide +kernel
theorem d_Writing_writeChoice_194 : decode b_Writing_writeChoice 194 = .ok (.goto 47, 3) := by decide +kernel
theorem d_Writing_writeChoice_197 : decode b_Writing_writeChoice 197 = .ok (.iload 6, 2) := by decide +kernel
theorem d_Writing_writeChoice_199 : decode b_Writing_writeChoice 199 = .ok (.ifCond .ne 8, 3) := by decide +kernel
theorem d_Writing_writeChoice_202 : decode b_Writing_writeChoice 202 = .ok (.iload 12, 2) := by decide +kernel
theorem d_Writing_writeChoice_204 : decode b_Writing_writeChoice 204 = .ok (.ifCond .eq 18, 3) := by decide +kernel
theorem d_Writing_writeChoice_207 : decode b_Writing_writeChoice 207 = .ok (.aload_n 0, 1) := by decide +kernel
theorem d_Writing_writeChoice_208 : decode b_Writing_writeChoice 208 = .ok (.iload 7, 2) := by decide +kernel
theorem d_Writing_writeChoice_210 : decode b_Writing_writeChoice 210 = .ok (.iload 8, 2) := by decide +kernel
theorem d_Writing_writeChoice_212 : decode b_Writing_writeChoice 212 = .ok (.iload 5, 2) := by decide +kernel
theorem d_Writing_writeChoice_214 : decode b_Writing_writeChoice 214 = .ok (.iconst 1, 1) := by decide +kernel
theorem d_Writing_writeChoice_215 : decode b_Writing_writeChoice 215 = .ok (.iadd, 1) := by decide +kernel
theorem d_Writing_writeChoice_216 : decode b_Writing_writeChoice 216 = .ok (.invokevirtual 159, 3) := by decide +kernel
theorem d_Writing_writeChoice_219 : decode b_Writing_writeChoice 219 = .ok (.goto 22, 3) := by decide +kernel
theorem d_Writing_writeChoice_222 : decode b_Writing_writeChoice 222 = .ok (.iload 9, 2) := by decide +kernel
theorem d_Writing_writeChoice_224 : decode b_Writing_writeChoice 224 = .ok (.ifCond .eq 17, 3) := by decide +kernel
theorem d_Writing_writeChoice_227 : decode b_Writing_writeChoice 227 = .ok (.aload_n 0, 1) := by decide +kernel
theorem d_Writing_writeChoice_228 : decode b_Writing_writeChoice 228 = .ok (.iload 8, 2) := by decide +kernel
theorem d_Writing_writeChoice_230 : decode b_Writing_writeChoice 230 = .ok (.iconst 1, 1) := by decide +kernel
theorem d_Writing_writeChoice_231 : decode b_Writing_writeChoice 231 = .ok (.iadd, 1) := by decide +kernel
theorem d_Writing_writeChoice_232 : decode b_Writing_writeChoice 232 = .ok (.iload 10, 2) := by decide +kernel
theorem d_Writing_writeChoice_234 : decode b_Writing_writeChoice 234 = .ok (.iload 5, 2) := by decide +kernel
theorem d_Writing_writeChoice_236 : decode b_Writing_writeChoice 236 = .ok (.iconst 1, 1) := by decide +kernel
theorem d_Writing_writeChoice_237 : decode b_Writing_writeChoice 237 = .ok (.iadd, 1) := by decide +kernel
theorem d_Writing_writeChoice_238 : decode b_Writing_writeChoice 238 = .ok (.invokevirtual 159, 3) := by decide +kernel
theorem d_Writing_writeChoice_241 : decode b_Writing_writeChoice 241 = .ok (.iload 10, 2) := by decide +kernel
theorem d_Writing_writeChoice_243 : decode b_Writing_writeChoice 243 = .ok (.iconst 1, 1) := by decide +kernel
theorem d_Writing_writeChoice_244 : decode b_Writing_writeChoice 244 = .ok (.iadd, 1) := by decide +kernel
theorem d_Writing_writeChoice_245 : decode b_Writing_writeChoice 245 = .ok (.ireturn, 1) := by decide +kernel
abbrev b_Writing_partEnd : ByteArray := prog_11_method_15_code
abbrev y_Writing_partEnd : MethodName := ⟨"ReplacementWriter$Writing", "partEnd", "(IIZ)I"⟩
theorem d_Writing_partEnd_0 : decode b_Writing_partEnd 0 = .ok (.iconst 0, 1) := by decide +kernel
theorem d_Writing_partEnd_1 : decode b_Writing_partEnd 1 = .ok (.istore 4, 2) := by decide +kernel
theorem d_Writing_partEnd_3 : decode b_Writing_partEnd 3 = .ok (.iload_n 1, 1) := by decide +kernel
theorem d_Writing_partEnd_4 : decode b_Writing_partEnd 4 = .ok (.istore 5, 2) := by decide +kernel
theorem d_Writing_partEnd_6 : decode b_Writing_partEnd 6 = .ok (.iload 5, 2) := by decide +kernel
theorem d_Writing_partEnd_8 : decode b_Writing_partEnd 8 = .ok (.iload_n 2, 1) := by decide +kernel
theorem d_Writing_partEnd_9 : decode b_Writing_partEnd 9 = .ok (.if_icmp .ge 99, 3) := by decide +kernel
theorem d_Writing_partEnd_12 : decode b_Writing_partEnd 12 = .ok (.aload_n 0, 1) := by decide +kernel
theorem d_Writing_partEnd_13 : decode b_Writing_partEnd 13 = .ok (.getfield 28, 3) := by decide +kernel
theorem d_Writing_partEnd_16 : decode b_Writing_partEnd 16 = .ok (.iload 5, 2) := by decide +kernel
theorem d_Writing_partEnd_18 : decode b_Writing_partEnd 18 = .ok (.invokevirtual 59, 3) := by decide +kernel
theorem d_Writing_partEnd_21 : decode b_Writing_partEnd 21 = .ok (.istore 6, 2) := by decide +kernel
theorem d_Writing_partEnd_23 : decode b_Writing_partEnd 23 = .ok (.iload 6, 2) := by decide +kernel
theorem d_Writing_partEnd_25 : decode b_Writing_partEnd 25 = .ok (.bipush 92, 2) := by decide +kernel
theorem d_Writing_partEnd_27 : decode b_Writing_partEnd 27 = .ok (.if_icmp .ne 9, 3) := by decide +kernel
theorem d_Writing_partEnd_30 : decode b_Writing_partEnd 30 = .ok (.iinc 5 1, 3) := by decide +kernel
theorem d_Writing_partEnd_33 : decode b_Writing_partEnd 33 = .ok (.goto 69, 3) := by decide +kernel
theorem d_Writing_partEnd_36 : decode b_Writing_partEnd 36 = .ok (.iload 6, 2) := by decide +kernel
theorem d_Writing_partEnd_38 : decode b_Writing_partEnd 38 = .ok (.bipush 36, 2) := by decide +kernel
theorem d_Writing_partEnd_40 : decode b_Writing_partEnd 40 = .ok (.if_icmp .ne 26, 3) := by decide +kernel
theorem d_Writing_partEnd_43 : decode b_Writing_partEnd 43 = .ok (.aload_n 0, 1) := by decide +kernel
theorem d_Writing_partEnd_44 : decode b_Writing_partEnd 44 = .ok (.iload 5, 2) := by decide +kernel
theorem d_Writing_partEnd_46 : decode b_Writing_partEnd 46 = .ok (.iconst 1, 1) := by decide +kernel
theorem d_Writing_partEnd_47 : decode b_Writing_partEnd 47 = .ok (.iadd, 1) := by decide +kernel
theorem d_Writing_partEnd_48 : decode b_Writing_partEnd 48 = .ok (.iload_n 2, 1) := by decide +kernel
theorem d_Writing_partEnd_49 : decode b_Writing_partEnd 49 = .ok (.invokevirtual 101, 3) := by decide +kernel
theorem d_Writing_partEnd_52 : decode b_Writing_partEnd 52 = .ok (.bipush 123, 2) := by decide +kernel
theorem d_Writing_partEnd_54 : decode b_Writing_partEnd 54 = .ok (.if_icmp .ne 12, 3) := by decide +kernel
theorem d_Writing_partEnd_57 : decode b_Writing_partEnd 57 = .ok (.iinc 4 1, 3) := by decide +kernel
theorem d_Writing_partEnd_60 : decode b_Writing_partEnd 60 = .ok (.iinc 5 1, 3) := by decide +kernel
theorem d_Writing_partEnd_63 : decode b_Writing_partEnd 63 = .ok (.goto 39, 3) := by decide +kernel
theorem d_Writing_partEnd_66 : decode b_Writing_partEnd 66 = .ok (.iload 4, 2) := by decide +kernel
theorem d_Writing_partEnd_68 : decode b_Writing_partEnd 68 = .ok (.ifCond .ne 24, 3) := by decide +kernel
theorem d_Writing_partEnd_71 : decode b_Writing_partEnd 71 = .ok (.iload 6, 2) := by decide +kernel
theorem d_Writing_partEnd_73 : decode b_Writing_partEnd 73 = .ok (.bipush 125, 2) := by decide +kernel
theorem d_Writing_partEnd_75 : decode b_Writing_partEnd 75 = .ok (.if_icmp .eq 14, 3) := by decide +kernel
theorem d_Writing_partEnd_78 : decode b_Writing_partEnd 78 = .ok (.iload 6, 2) := by decide +kernel
theorem d_Writing_partEnd_80 : decode b_Writing_partEnd 80 = .ok (.bipush 58, 2) := by decide +kernel
theorem d_Writing_partEnd_82 : decode b_Writing_partEnd 82 = .ok (.if_icmp .ne 10, 3) := by decide +kernel
theorem d_Writing_partEnd_85 : decode b_Writing_partEnd 85 = .ok (.iload_n 3, 1) := by decide +kernel
theorem d_Writing_partEnd_86 : decode b_Writing_partEnd 86 = .ok (.ifCond .eq 6, 3) := by decide +kernel
theorem d_Writing_partEnd_89 : decode b_Writing_partEnd 89 = .ok (.iload 5, 2) := by decide +kernel
theorem d_Writing_partEnd_91 : decode b_Writing_partEnd 91 = .ok (.ireturn, 1) := by decide +kernel
theorem d_Writing_partEnd_92 : decode b_Writing_partEnd 92 = .ok (.iload 6, 2) := by decide +kernel
theorem d_Writing_partEnd_94 : decode b_Writing_partEnd 94 = .ok (.bipush 125, 2) := by decide +kernel
theorem d_Writing_partEnd_96 : decode b_Writing_partEnd 96 = .ok (.if_icmp .ne 6, 3) := by decide +kernel
theorem d_Writing_partEnd_99 : decode b_Writing_partEnd 99 = .ok (.iinc 4 (-1), 3) := by decide +kernel
theorem d_Writing_partEnd_102 : decode b_Writing_partEnd 102 = .ok (.iinc 5 1, 3) := by decide +kernel
theorem d_Writing_partEnd_105 : decode b_Writing_partEnd 105 = .ok (.goto (-99), 3) := by decide +kernel
theorem d_Writing_partEnd_108 : decode b_Writing_partEnd 108 = .ok (.iload_n 2, 1) := by decide +kernel
theorem d_Writing_partEnd_109 : decode b_Writing_partEnd 109 = .ok (.ireturn, 1) := by decide +kernel
abbrev b_Writing_writeBackslash : ByteArray := prog_11_method_16_code
abbrev y_Writing_writeBackslash : MethodName := ⟨"ReplacementWriter$Writing", "writeBackslash", "(II)I"⟩
theorem d_Writing_writeBackslash_0 : decode b_Writing_writeBackslash 0 = .ok (.iload_n 1, 1) := by decide +kernel
theorem d_Writing_writeBackslash_1 : decode b_Writing_writeBackslash 1 = .ok (.iconst 2, 1) := by decide +kernel
theorem d_Writing_writeBackslash_2 : decode b_Writing_writeBackslash 2 = .ok (.iadd, 1) := by decide +kernel
theorem d_Writing_writeBackslash_3 : decode b_Writing_writeBackslash 3 = .ok (.istore_n 3, 1) := by decide +kernel
theorem d_Writing_writeBackslash_4 : decode b_Writing_writeBackslash 4 = .ok (.aload_n 0, 1) := by decide +kernel
theorem d_Writing_writeBackslash_5 : decode b_Writing_writeBackslash 5 = .ok (.iload_n 1, 1) := by decide +kernel
theorem d_Writing_writeBackslash_6 : decode b_Writing_writeBackslash 6 = .ok (.iconst 1, 1) := by decide +kernel
theorem d_Writing_writeBackslash_7 : decode b_Writing_writeBackslash 7 = .ok (.iadd, 1) := by decide +kernel
theorem d_Writing_writeBackslash_8 : decode b_Writing_writeBackslash 8 = .ok (.iload_n 2, 1) := by decide +kernel
theorem d_Writing_writeBackslash_9 : decode b_Writing_writeBackslash 9 = .ok (.invokevirtual 101, 3) := by decide +kernel
theorem d_Writing_writeBackslash_12 : decode b_Writing_writeBackslash 12 = .ok (.istore 4, 2) := by decide +kernel
theorem d_Writing_writeBackslash_14 : decode b_Writing_writeBackslash 14 = .ok (.iload 4, 2) := by decide +kernel
theorem d_Writing_writeBackslash_16 : decode b_Writing_writeBackslash 16 = .ok (.lookupswitch 127 #[(69, 67), (76, 91), (81, 60), (85, 79), (108, 115), (117, 103)], 60) := by decide +kernel
theorem d_Writing_writeBackslash_76 : decode b_Writing_writeBackslash 76 = .ok (.aload_n 0, 1) := by decide +kernel
theorem d_Writing_writeBackslash_77 : decode b_Writing_writeBackslash 77 = .ok (.iload_n 3, 1) := by decide +kernel
theorem d_Writing_writeBackslash_78 : decode b_Writing_writeBackslash 78 = .ok (.iload_n 2, 1) := by decide +kernel
theorem d_Writing_writeBackslash_79 : decode b_Writing_writeBackslash 79 = .ok (.invokevirtual 163, 3) := by decide +kernel
theorem d_Writing_writeBackslash_82 : decode b_Writing_writeBackslash 82 = .ok (.ireturn, 1) := by decide +kernel
theorem d_Writing_writeBackslash_83 : decode b_Writing_writeBackslash 83 = .ok (.aload_n 0, 1) := by decide +kernel
theorem d_Writing_writeBackslash_84 : decode b_Writing_writeBackslash 84 = .ok (.getfield 36, 3) := by decide +kernel
theorem d_Writing_writeBackslash_87 : decode b_Writing_writeBackslash 87 = .ok (.getstatic 166, 3) := by decide +kernel
theorem d_Writing_writeBackslash_90 : decode b_Writing_writeBackslash 90 = .ok (.invokevirtual 172, 3) := by decide +kernel
theorem d_Writing_writeBackslash_93 : decode b_Writing_writeBackslash 93 = .ok (.iload_n 3, 1) := by decide +kernel
theorem d_Writing_writeBackslash_94 : decode b_Writing_writeBackslash 94 = .ok (.ireturn, 1) := by decide +kernel
theorem d_Writing_writeBackslash_95 : decode b_Writing_writeBackslash 95 = .ok (.aload_n 0, 1) := by decide +kernel
theorem d_Writing_writeBackslash_96 : decode b_Writing_writeBackslash 96 = .ok (.getfield 36, 3) := by decide +kernel
theorem d_Writing_writeBackslash_99 : decode b_Writing_writeBackslash 99 = .ok (.getstatic 176, 3) := by decide +kernel
theorem d_Writing_writeBackslash_102 : decode b_Writing_writeBackslash 102 = .ok (.invokevirtual 172, 3) := by decide +kernel
theorem d_Writing_writeBackslash_105 : decode b_Writing_writeBackslash 105 = .ok (.iload_n 3, 1) := by decide +kernel
theorem d_Writing_writeBackslash_106 : decode b_Writing_writeBackslash 106 = .ok (.ireturn, 1) := by decide +kernel
theorem d_Writing_writeBackslash_107 : decode b_Writing_writeBackslash 107 = .ok (.aload_n 0, 1) := by decide +kernel
theorem d_Writing_writeBackslash_108 : decode b_Writing_writeBackslash 108 = .ok (.getfield 36, 3) := by decide +kernel
theorem d_Writing_writeBackslash_111 : decode b_Writing_writeBackslash 111 = .ok (.getstatic 179, 3) := by decide +kernel
theorem d_Writing_writeBackslash_114 : decode b_Writing_writeBackslash 114 = .ok (.invokevirtual 172, 3) := by decide +kernel
theorem d_Writing_writeBackslash_117 : decode b_Writing_writeBackslash 117 = .ok (.iload_n 3, 1) := by decide +kernel
theorem d_Writing_writeBackslash_118 : decode b_Writing_writeBackslash 118 = .ok (.ireturn, 1) := by decide +kernel
theorem d_Writing_writeBackslash_119 : decode b_Writing_writeBackslash 119 = .ok (.aload_n 0, 1) := by decide +kernel
theorem d_Writing_writeBackslash_120 : decode b_Writing_writeBackslash 120 = .ok (.getfield 36, 3) := by decide +kernel
theorem d_Writing_writeBackslash_123 : decode b_Writing_writeBackslash 123 = .ok (.getstatic 176, 3) := by decide +kernel
theorem d_Writing_writeBackslash_126 : decode b_Writing_writeBackslash 126 = .ok (.invokevirtual 182, 3) := by decide +kernel
theorem d_Writing_writeBackslash_129 : decode b_Writing_writeBackslash 129 = .ok (.iload_n 3, 1) := by decide +kernel
theorem d_Writing_writeBackslash_130 : decode b_Writing_writeBackslash 130 = .ok (.ireturn, 1) := by decide +kernel
theorem d_Writing_writeBackslash_131 : decode b_Writing_writeBackslash 131 = .ok (.aload_n 0, 1) := by decide +kernel
theorem d_Writing_writeBackslash_132 : decode b_Writing_writeBackslash 132 = .ok (.getfield 36, 3) := by decide +kernel
theorem d_Writing_writeBackslash_135 : decode b_Writing_writeBackslash 135 = .ok (.getstatic 179, 3) := by decide +kernel
theorem d_Writing_writeBackslash_138 : decode b_Writing_writeBackslash 138 = .ok (.invokevirtual 182, 3) := by decide +kernel
theorem d_Writing_writeBackslash_141 : decode b_Writing_writeBackslash 141 = .ok (.iload_n 3, 1) := by decide +kernel
theorem d_Writing_writeBackslash_142 : decode b_Writing_writeBackslash 142 = .ok (.ireturn, 1) := by decide +kernel
theorem d_Writing_writeBackslash_143 : decode b_Writing_writeBackslash 143 = .ok (.iload 4, 2) := by decide +kernel
theorem d_Writing_writeBackslash_145 : decode b_Writing_writeBackslash 145 = .ok (.ifCond .lt 19, 3) := by decide +kernel
theorem d_Writing_writeBackslash_148 : decode b_Writing_writeBackslash 148 = .ok (.iload 4, 2) := by decide +kernel
theorem d_Writing_writeBackslash_150 : decode b_Writing_writeBackslash 150 = .ok (.invokestatic 185, 3) := by decide +kernel
theorem d_Writing_writeBackslash_153 : decode b_Writing_writeBackslash 153 = .ok (.ifCond .ne 11, 3) := by decide +kernel
theorem d_Writing_writeBackslash_156 : decode b_Writing_writeBackslash 156 = .ok (.aload_n 0, 1) := by decide +kernel
theorem d_Writing_writeBackslash_157 : decode b_Writing_writeBackslash 157 = .ok (.iload_n 1, 1) := by decide +kernel
theorem d_Writing_writeBackslash_158 : decode b_Writing_writeBackslash 158 = .ok (.iconst 1, 1) := by decide +kernel
theorem d_Writing_writeBackslash_159 : decode b_Writing_writeBackslash 159 = .ok (.iadd, 1) := by decide +kernel
theorem d_Writing_writeBackslash_160 : decode b_Writing_writeBackslash 160 = .ok (.invokevirtual 71, 3) := by decide +kernel
theorem d_Writing_writeBackslash_163 : decode b_Writing_writeBackslash 163 = .ok (.ireturn, 1) := by decide +kernel
theorem d_Writing_writeBackslash_164 : decode b_Writing_writeBackslash 164 = .ok (.aload_n 0, 1) := by decide +kernel
theorem d_Writing_writeBackslash_165 : decode b_Writing_writeBackslash 165 = .ok (.getfield 49, 3) := by decide +kernel
theorem d_Writing_writeBackslash_168 : decode b_Writing_writeBackslash 168 = .ok (.iload_n 1, 1) := by decide +kernel
theorem d_Writing_writeBackslash_169 : decode b_Writing_writeBackslash 169 = .ok (.iconst 1, 1) := by decide +kernel
theorem d_Writing_writeBackslash_170 : decode b_Writing_writeBackslash 170 = .ok (.iadd, 1) := by decide +kernel
theorem d_Writing_writeBackslash_171 : decode b_Writing_writeBackslash 171 = .ok (.iload_n 2, 1) := by decide +kernel
theorem d_Writing_writeBackslash_172 : decode b_Writing_writeBackslash 172 = .ok (.invokevirtual 188, 3) := by decide +kernel
theorem d_Writing_writeBackslash_175 : decode b_Writing_writeBackslash 175 = .ok (.ifCond .ne 11, 3) := by decide +kernel
theorem d_Writing_writeBackslash_178 : decode b_Writing_writeBackslash 178 = .ok (.aload_n 0, 1) := by decide +kernel
theorem d_Writing_writeBackslash_179 : decode b_Writing_writeBackslash 179 = .ok (.bipush (-57), 2) := by decide +kernel
theorem d_Writing_writeBackslash_181 : decode b_Writing_writeBackslash 181 = .ok (.iload_n 1, 1) := by decide +kernel
theorem d_Writing_writeBackslash_182 : decode b_Writing_writeBackslash 182 = .ok (.invokevirtual 80, 3) := by decide +kernel
theorem d_Writing_writeBackslash_185 : decode b_Writing_writeBackslash 185 = .ok (.ireturn, 1) := by decide +kernel
theorem d_Writing_writeBackslash_186 : decode b_Writing_writeBackslash 186 = .ok (.aload_n 0, 1) := by decide +kernel
theorem d_Writing_writeBackslash_187 : decode b_Writing_writeBackslash 187 = .ok (.getfield 36, 3) := by decide +kernel
theorem d_Writing_writeBackslash_190 : decode b_Writing_writeBackslash 190 = .ok (.aload_n 0, 1) := by decide +kernel
theorem d_Writing_writeBackslash_191 : decode b_Writing_writeBackslash 191 = .ok (.getfield 49, 3) := by decide +kernel
theorem d_Writing_writeBackslash_194 : decode b_Writing_writeBackslash 194 = .ok (.invokevirtual 192, 3) := by decide +kernel
theorem d_Writing_writeBackslash_197 : decode b_Writing_writeBackslash 197 = .ok (.invokevirtual 94, 3) := by decide +kernel
theorem d_Writing_writeBackslash_200 : decode b_Writing_writeBackslash 200 = .ok (.aload_n 0, 1) := by decide +kernel
theorem d_Writing_writeBackslash_201 : decode b_Writing_writeBackslash 201 = .ok (.getfield 49, 3) := by decide +kernel
theorem d_Writing_writeBackslash_204 : decode b_Writing_writeBackslash 204 = .ok (.invokevirtual 195, 3) := by decide +kernel
theorem d_Writing_writeBackslash_207 : decode b_Writing_writeBackslash 207 = .ok (.ireturn, 1) := by decide +kernel
abbrev b_Writing_writeQuoted : ByteArray := prog_11_method_17_code
abbrev y_Writing_writeQuoted : MethodName := ⟨"ReplacementWriter$Writing", "writeQuoted", "(II)I"⟩
theorem d_Writing_writeQuoted_0 : decode b_Writing_writeQuoted 0 = .ok (.iload_n 1, 1) := by decide +kernel
theorem d_Writing_writeQuoted_1 : decode b_Writing_writeQuoted 1 = .ok (.istore_n 3, 1) := by decide +kernel
theorem d_Writing_writeQuoted_2 : decode b_Writing_writeQuoted 2 = .ok (.iload_n 3, 1) := by decide +kernel
theorem d_Writing_writeQuoted_3 : decode b_Writing_writeQuoted 3 = .ok (.iload_n 2, 1) := by decide +kernel
theorem d_Writing_writeQuoted_4 : decode b_Writing_writeQuoted 4 = .ok (.if_icmp .ge 35, 3) := by decide +kernel
theorem d_Writing_writeQuoted_7 : decode b_Writing_writeQuoted 7 = .ok (.aload_n 0, 1) := by decide +kernel
theorem d_Writing_writeQuoted_8 : decode b_Writing_writeQuoted 8 = .ok (.getfield 28, 3) := by decide +kernel
theorem d_Writing_writeQuoted_11 : decode b_Writing_writeQuoted 11 = .ok (.iload_n 3, 1) := by decide +kernel
theorem d_Writing_writeQuoted_12 : decode b_Writing_writeQuoted 12 = .ok (.invokevirtual 59, 3) := by decide +kernel
theorem d_Writing_writeQuoted_15 : decode b_Writing_writeQuoted 15 = .ok (.bipush 92, 2) := by decide +kernel
theorem d_Writing_writeQuoted_17 : decode b_Writing_writeQuoted 17 = .ok (.if_icmp .ne 16, 3) := by decide +kernel
theorem d_Writing_writeQuoted_20 : decode b_Writing_writeQuoted 20 = .ok (.aload_n 0, 1) := by decide +kernel
theorem d_Writing_writeQuoted_21 : decode b_Writing_writeQuoted 21 = .ok (.iload_n 3, 1) := by decide +kernel
theorem d_Writing_writeQuoted_22 : decode b_Writing_writeQuoted 22 = .ok (.iconst 1, 1) := by decide +kernel
theorem d_Writing_writeQuoted_23 : decode b_Writing_writeQuoted 23 = .ok (.iadd, 1) := by decide +kernel
theorem d_Writing_writeQuoted_24 : decode b_Writing_writeQuoted 24 = .ok (.iload_n 2, 1) := by decide +kernel
theorem d_Writing_writeQuoted_25 : decode b_Writing_writeQuoted 25 = .ok (.invokevirtual 101, 3) := by decide +kernel
theorem d_Writing_writeQuoted_28 : decode b_Writing_writeQuoted 28 = .ok (.bipush 69, 2) := by decide +kernel
theorem d_Writing_writeQuoted_30 : decode b_Writing_writeQuoted 30 = .ok (.if_icmp .eq 9, 3) := by decide +kernel
theorem d_Writing_writeQuoted_33 : decode b_Writing_writeQuoted 33 = .ok (.iinc 3 1, 3) := by decide +kernel
theorem d_Writing_writeQuoted_36 : decode b_Writing_writeQuoted 36 = .ok (.goto (-34), 3) := by decide +kernel
theorem d_Writing_writeQuoted_39 : decode b_Writing_writeQuoted 39 = .ok (.aload_n 0, 1) := by decide +kernel
theorem d_Writing_writeQuoted_40 : decode b_Writing_writeQuoted 40 = .ok (.getfield 36, 3) := by decide +kernel
theorem d_Writing_writeQuoted_43 : decode b_Writing_writeQuoted 43 = .ok (.aload_n 0, 1) := by decide +kernel
theorem d_Writing_writeQuoted_44 : decode b_Writing_writeQuoted 44 = .ok (.getfield 28, 3) := by decide +kernel
theorem d_Writing_writeQuoted_47 : decode b_Writing_writeQuoted 47 = .ok (.iload_n 1, 1) := by decide +kernel
theorem d_Writing_writeQuoted_48 : decode b_Writing_writeQuoted 48 = .ok (.iload_n 3, 1) := by decide +kernel
theorem d_Writing_writeQuoted_49 : decode b_Writing_writeQuoted 49 = .ok (.invokevirtual 125, 3) := by decide +kernel
theorem d_Writing_writeQuoted_52 : decode b_Writing_writeQuoted 52 = .ok (.iload_n 3, 1) := by decide +kernel
theorem d_Writing_writeQuoted_53 : decode b_Writing_writeQuoted 53 = .ok (.iconst 2, 1) := by decide +kernel
theorem d_Writing_writeQuoted_54 : decode b_Writing_writeQuoted 54 = .ok (.iadd, 1) := by decide +kernel
theorem d_Writing_writeQuoted_55 : decode b_Writing_writeQuoted 55 = .ok (.ireturn, 1) := by decide +kernel
abbrev b_Writing_writeCharacter : ByteArray := prog_11_method_8_code
abbrev y_Writing_writeCharacter : MethodName := ⟨"ReplacementWriter$Writing", "writeCharacter", "(I)I"⟩
theorem d_Writing_writeCharacter_0 : decode b_Writing_writeCharacter 0 = .ok (.aload_n 0, 1) := by decide +kernel
theorem d_Writing_writeCharacter_1 : decode b_Writing_writeCharacter 1 = .ok (.getfield 36, 3) := by decide +kernel
theorem d_Writing_writeCharacter_4 : decode b_Writing_writeCharacter 4 = .ok (.aload_n 0, 1) := by decide +kernel
theorem d_Writing_writeCharacter_5 : decode b_Writing_writeCharacter 5 = .ok (.getfield 40, 3) := by decide +kernel
theorem d_Writing_writeCharacter_8 : decode b_Writing_writeCharacter 8 = .ok (.aload_n 0, 1) := by decide +kernel
theorem d_Writing_writeCharacter_9 : decode b_Writing_writeCharacter 9 = .ok (.getfield 28, 3) := by decide +kernel
theorem d_Writing_writeCharacter_12 : decode b_Writing_writeCharacter 12 = .ok (.iload_n 1, 1) := by decide +kernel
theorem d_Writing_writeCharacter_13 : decode b_Writing_writeCharacter 13 = .ok (.invokevirtual 88, 3) := by decide +kernel
theorem d_Writing_writeCharacter_16 : decode b_Writing_writeCharacter 16 = .ok (.invokevirtual 94, 3) := by decide +kernel
theorem d_Writing_writeCharacter_19 : decode b_Writing_writeCharacter 19 = .ok (.iload_n 1, 1) := by decide +kernel
theorem d_Writing_writeCharacter_20 : decode b_Writing_writeCharacter 20 = .ok (.aload_n 0, 1) := by decide +kernel
theorem d_Writing_writeCharacter_21 : decode b_Writing_writeCharacter 21 = .ok (.getfield 40, 3) := by decide +kernel
theorem d_Writing_writeCharacter_24 : decode b_Writing_writeCharacter 24 = .ok (.aload_n 0, 1) := by decide +kernel
theorem d_Writing_writeCharacter_25 : decode b_Writing_writeCharacter 25 = .ok (.getfield 28, 3) := by decide +kernel
theorem d_Writing_writeCharacter_28 : decode b_Writing_writeCharacter 28 = .ok (.iload_n 1, 1) := by decide +kernel
theorem d_Writing_writeCharacter_29 : decode b_Writing_writeCharacter 29 = .ok (.invokevirtual 59, 3) := by decide +kernel
theorem d_Writing_writeCharacter_32 : decode b_Writing_writeCharacter 32 = .ok (.invokevirtual 98, 3) := by decide +kernel
theorem d_Writing_writeCharacter_35 : decode b_Writing_writeCharacter 35 = .ok (.iadd, 1) := by decide +kernel
theorem d_Writing_writeCharacter_36 : decode b_Writing_writeCharacter 36 = .ok (.ireturn, 1) := by decide +kernel
abbrev b_Escape_read : ByteArray := prog_5_method_4_code
abbrev y_Escape_read : MethodName := ⟨"ReplacementWriter$Escape", "read", "(II)Z"⟩
theorem d_Escape_read_0 : decode b_Escape_read 0 = .ok (.iload_n 1, 1) := by decide +kernel
theorem d_Escape_read_1 : decode b_Escape_read 1 = .ok (.iload_n 2, 1) := by decide +kernel
theorem d_Escape_read_2 : decode b_Escape_read 2 = .ok (.if_icmp .ge 14, 3) := by decide +kernel
theorem d_Escape_read_5 : decode b_Escape_read 5 = .ok (.aload_n 0, 1) := by decide +kernel
theorem d_Escape_read_6 : decode b_Escape_read 6 = .ok (.getfield 16, 3) := by decide +kernel
theorem d_Escape_read_9 : decode b_Escape_read 9 = .ok (.iload_n 1, 1) := by decide +kernel
theorem d_Escape_read_10 : decode b_Escape_read 10 = .ok (.invokevirtual 24, 3) := by decide +kernel
theorem d_Escape_read_13 : decode b_Escape_read 13 = .ok (.goto 4, 3) := by decide +kernel
theorem d_Escape_read_16 : decode b_Escape_read 16 = .ok (.iconst (-1), 1) := by decide +kernel
theorem d_Escape_read_17 : decode b_Escape_read 17 = .ok (.lookupswitch 238 #[(48, 160), (97, 91), (99, 151), (101, 101), (102, 111), (110, 121), (111, 171), (114, 131), (116, 141), (120, 182)], 91) := by decide +kernel
theorem d_Escape_read_108 : decode b_Escape_read 108 = .ok (.aload_n 0, 1) := by decide +kernel
theorem d_Escape_read_109 : decode b_Escape_read 109 = .ok (.bipush 7, 2) := by decide +kernel
theorem d_Escape_read_111 : decode b_Escape_read 111 = .ok (.iload_n 1, 1) := by decide +kernel
theorem d_Escape_read_112 : decode b_Escape_read 112 = .ok (.iconst 1, 1) := by decide +kernel
theorem d_Escape_read_113 : decode b_Escape_read 113 = .ok (.iadd, 1) := by decide +kernel
theorem d_Escape_read_114 : decode b_Escape_read 114 = .ok (.invokevirtual 30, 3) := by decide +kernel
theorem d_Escape_read_117 : decode b_Escape_read 117 = .ok (.ireturn, 1) := by decide +kernel
theorem d_Escape_read_118 : decode b_Escape_read 118 = .ok (.aload_n 0, 1) := by decide +kernel
theorem d_Escape_read_119 : decode b_Escape_read 119 = .ok (.bipush 27, 2) := by decide +kernel
theorem d_Escape_read_121 : decode b_Escape_read 121 = .ok (.iload_n 1, 1) := by decide +kernel
theorem d_Escape_read_122 : decode b_Escape_read 122 = .ok (.iconst 1, 1) := by decide +kernel
theorem d_Escape_read_123 : decode b_Escape_read 123 = .ok (.iadd, 1) := by decide +kernel
theorem d_Escape_read_124 : decode b_Escape_read 124 = .ok (.invokevirtual 30, 3) := by decide +kernel
theorem d_Escape_read_127 : decode b_Escape_read 127 = .ok (.ireturn, 1) := by decide +kernel
theorem d_Escape_read_128 : decode b_Escape_read 128 = .ok (.aload_n 0, 1) := by decide +kernel
theorem d_Escape_read_129 : decode b_Escape_read 129 = .ok (.bipush 12, 2) := by decide +kernel
theorem d_Escape_read_131 : decode b_Escape_read 131 = .ok (.iload_n 1, 1) := by decide +kernel
theorem d_Escape_read_132 : decode b_Escape_read 132 = .ok (.iconst 1, 1) := by decide +kernel
theorem d_Escape_read_133 : decode b_Escape_read 133 = .ok (.iadd, 1) := by decide +kernel
theorem d_Escape_read_134 : decode b_Escape_read 134 = .ok (.invokevirtual 30, 3) := by decide +kernel
theorem d_Escape_read_137 : decode b_Escape_read 137 = .ok (.ireturn, 1) := by decide +kernel
theorem d_Escape_read_138 : decode b_Escape_read 138 = .ok (.aload_n 0, 1) := by decide +kernel
theorem d_Escape_read_139 : decode b_Escape_read 139 = .ok (.bipush 10, 2) := by decide +kernel
theorem d_Escape_read_141 : decode b_Escape_read 141 = .ok (.iload_n 1, 1) := by decide +kernel
theorem d_Escape_read_142 : decode b_Escape_read 142 = .ok (.iconst 1, 1) := by decide +kernel
theorem d_Escape_read_143 : decode b_Escape_read 143 = .ok (.iadd, 1) := by decide +kernel
theorem d_Escape_read_144 : decode b_Escape_read 144 = .ok (.invokevirtual 30, 3) := by decide +kernel
theorem d_Escape_read_147 : decode b_Escape_read 147 = .ok (.ireturn, 1) := by decide +kernel
theorem d_Escape_read_148 : decode b_Escape_read 148 = .ok (.aload_n 0, 1) := by decide +kernel
theorem d_Escape_read_149 : decode b_Escape_read 149 = .ok (.bipush 13, 2) := by decide +kernel
theorem d_Escape_read_151 : decode b_Escape_read 151 = .ok (.iload_n 1, 1) := by decide +kernel
theorem d_Escape_read_152 : decode b_Escape_read 152 = .ok (.iconst 1, 1) := by decide +kernel
theorem d_Escape_read_153 : decode b_Escape_read 153 = .ok (.iadd, 1) := by decide +kernel
theorem d_Escape_read_154 : decode b_Escape_read 154 = .ok (.invokevirtual 30, 3) := by decide +kernel
theorem d_Escape_read_157 : decode b_Escape_read 157 = .ok (.ireturn, 1) := by decide +kernel
theorem d_Escape_read_158 : decode b_Escape_read 158 = .ok (.aload_n 0, 1) := by decide +kernel
theorem d_Escape_read_159 : decode b_Escape_read 159 = .ok (.bipush 9, 2) := by decide +kernel
theorem d_Escape_read_161 : decode b_Escape_read 161 = .ok (.iload_n 1, 1) := by decide +kernel
theorem d_Escape_read_162 : decode b_Escape_read 162 = .ok (.iconst 1, 1) := by decide +kernel
theorem d_Escape_read_163 : decode b_Escape_read 163 = .ok (.iadd, 1) := by decide +kernel
theorem d_Escape_read_164 : decode b_Escape_read 164 = .ok (.invokevirtual 30, 3) := by decide +kernel
theorem d_Escape_read_167 : decode b_Escape_read 167 = .ok (.ireturn, 1) := by decide +kernel
theorem d_Escape_read_168 : decode b_Escape_read 168 = .ok (.aload_n 0, 1) := by decide +kernel
theorem d_Escape_read_169 : decode b_Escape_read 169 = .ok (.iload_n 1, 1) := by decide +kernel
theorem d_Escape_read_170 : decode b_Escape_read 170 = .ok (.iconst 1, 1) := by decide +kernel
theorem d_Escape_read_171 : decode b_Escape_read 171 = .ok (.iadd, 1) := by decide +kernel
theorem d_Escape_read_172 : decode b_Escape_read 172 = .ok (.iload_n 2, 1) := by decide +kernel
theorem d_Escape_read_173 : decode b_Escape_read 173 = .ok (.invokevirtual 34, 3) := by decide +kernel
theorem d_Escape_read_176 : decode b_Escape_read 176 = .ok (.ireturn, 1) := by decide +kernel
theorem d_Escape_read_177 : decode b_Escape_read 177 = .ok (.aload_n 0, 1) := by decide +kernel
theorem d_Escape_read_178 : decode b_Escape_read 178 = .ok (.iload_n 1, 1) := by decide +kernel
theorem d_Escape_read_179 : decode b_Escape_read 179 = .ok (.iconst 1, 1) := by decide +kernel
theorem d_Escape_read_180 : decode b_Escape_read 180 = .ok (.iadd, 1) := by decide +kernel
theorem d_Escape_read_181 : decode b_Escape_read 181 = .ok (.iload_n 2, 1) := by decide +kernel
theorem d_Escape_read_182 : decode b_Escape_read 182 = .ok (.bipush 8, 2) := by decide +kernel
theorem d_Escape_read_184 : decode b_Escape_read 184 = .ok (.invokevirtual 37, 3) := by decide +kernel
theorem d_Escape_read_187 : decode b_Escape_read 187 = .ok (.ireturn, 1) := by decide +kernel
theorem d_Escape_read_188 : decode b_Escape_read 188 = .ok (.aload_n 0, 1) := by decide +kernel
theorem d_Escape_read_189 : decode b_Escape_read 189 = .ok (.iload_n 1, 1) := by decide +kernel
theorem d_Escape_read_190 : decode b_Escape_read 190 = .ok (.iconst 1, 1) := by decide +kernel
theorem d_Escape_read_191 : decode b_Escape_read 191 = .ok (.iadd, 1) := by decide +kernel
theorem d_Escape_read_192 : decode b_Escape_read 192 = .ok (.iload_n 2, 1) := by decide +kernel
theorem d_Escape_read_193 : decode b_Escape_read 193 = .ok (.bipush 8, 2) := by decide +kernel
theorem d_Escape_read_195 : decode b_Escape_read 195 = .ok (.invokevirtual 41, 3) := by decide +kernel
theorem d_Escape_read_198 : decode b_Escape_read 198 = .ok (.ireturn, 1) := by decide +kernel
theorem d_Escape_read_199 : decode b_Escape_read 199 = .ok (.iload_n 1, 1) := by decide +kernel
theorem d_Escape_read_200 : decode b_Escape_read 200 = .ok (.iconst 1, 1) := by decide +kernel
theorem d_Escape_read_201 : decode b_Escape_read 201 = .ok (.iadd, 1) := by decide +kernel
theorem d_Escape_read_202 : decode b_Escape_read 202 = .ok (.iload_n 2, 1) := by decide +kernel
theorem d_Escape_read_203 : decode b_Escape_read 203 = .ok (.if_icmp .ge 22, 3) := by decide +kernel
theorem d_Escape_read_206 : decode b_Escape_read 206 = .ok (.aload_n 0, 1) := by decide +kernel
theorem d_Escape_read_207 : decode b_Escape_read 207 = .ok (.getfield 16, 3) := by decide +kernel
theorem d_Escape_read_210 : decode b_Escape_read 210 = .ok (.iload_n 1, 1) := by decide +kernel
theorem d_Escape_read_211 : decode b_Escape_read 211 = .ok (.iconst 1, 1) := by decide +kernel
theorem d_Escape_read_212 : decode b_Escape_read 212 = .ok (.iadd, 1) := by decide +kernel
theorem d_Escape_read_213 : decode b_Escape_read 213 = .ok (.invokevirtual 24, 3) := by decide +kernel
theorem d_Escape_read_216 : decode b_Escape_read 216 = .ok (.bipush 123, 2) := by decide +kernel
theorem d_Escape_read_218 : decode b_Escape_read 218 = .ok (.if_icmp .ne 7, 3) := by decide +kernel
theorem d_Escape_read_221 : decode b_Escape_read 221 = .ok (.iconst 1, 1) := by decide +kernel
theorem d_Escape_read_222 : decode b_Escape_read 222 = .ok (.goto 4, 3) := by decide +kernel
theorem d_Escape_read_225 : decode b_Escape_read 225 = .ok (.iconst 0, 1) := by decide +kernel
theorem d_Escape_read_226 : decode b_Escape_read 226 = .ok (.istore_n 3, 1) := by decide +kernel
theorem d_Escape_read_227 : decode b_Escape_read 227 = .ok (.iload_n 3, 1) := by decide +kernel
theorem d_Escape_read_228 : decode b_Escape_read 228 = .ok (.ifCond .eq 16, 3) := by decide +kernel
theorem d_Escape_read_231 : decode b_Escape_read 231 = .ok (.aload_n 0, 1) := by decide +kernel
theorem d_Escape_read_232 : decode b_Escape_read 232 = .ok (.iload_n 1, 1) := by decide +kernel
theorem d_Escape_read_233 : decode b_Escape_read 233 = .ok (.iconst 1, 1) := by decide +kernel
theorem d_Escape_read_234 : decode b_Escape_read 234 = .ok (.iadd, 1) := by decide +kernel
theorem d_Escape_read_235 : decode b_Escape_read 235 = .ok (.iload_n 2, 1) := by decide +kernel
theorem d_Escape_read_236 : decode b_Escape_read 236 = .ok (.bipush 16, 2) := by decide +kernel
theorem d_Escape_read_238 : decode b_Escape_read 238 = .ok (.invokevirtual 41, 3) := by decide +kernel
theorem d_Escape_read_241 : decode b_Escape_read 241 = .ok (.goto 13, 3) := by decide +kernel
theorem d_Escape_read_244 : decode b_Escape_read 244 = .ok (.aload_n 0, 1) := by decide +kernel
theorem d_Escape_read_245 : decode b_Escape_read 245 = .ok (.iload_n 1, 1) := by decide +kernel
theorem d_Escape_read_246 : decode b_Escape_read 246 = .ok (.iconst 1, 1) := by decide +kernel
theorem d_Escape_read_247 : decode b_Escape_read 247 = .ok (.iadd, 1) := by decide +kernel
theorem d_Escape_read_248 : decode b_Escape_read 248 = .ok (.iload_n 2, 1) := by decide +kernel
theorem d_Escape_read_249 : decode b_Escape_read 249 = .ok (.bipush 16, 2) := by decide +kernel
theorem d_Escape_read_251 : decode b_Escape_read 251 = .ok (.invokevirtual 37, 3) := by decide +kernel
theorem d_Escape_read_254 : decode b_Escape_read 254 = .ok (.ireturn, 1) := by decide +kernel
theorem d_Escape_read_255 : decode b_Escape_read 255 = .ok (.iconst 0, 1) := by decide +kernel
theorem d_Escape_read_256 : decode b_Escape_read 256 = .ok (.ireturn, 1) := by decide +kernel
abbrev b_Escape_found : ByteArray := prog_5_method_5_code
abbrev y_Escape_found : MethodName := ⟨"ReplacementWriter$Escape", "found", "(II)Z"⟩
theorem d_Escape_found_0 : decode b_Escape_found 0 = .ok (.aload_n 0, 1) := by decide +kernel
theorem d_Escape_found_1 : decode b_Escape_found 1 = .ok (.iload_n 1, 1) := by decide +kernel
theorem d_Escape_found_2 : decode b_Escape_found 2 = .ok (.putfield 7, 3) := by decide +kernel
theorem d_Escape_found_5 : decode b_Escape_found 5 = .ok (.aload_n 0, 1) := by decide +kernel
theorem d_Escape_found_6 : decode b_Escape_found 6 = .ok (.iload_n 2, 1) := by decide +kernel
theorem d_Escape_found_7 : decode b_Escape_found 7 = .ok (.putfield 13, 3) := by decide +kernel
theorem d_Escape_found_10 : decode b_Escape_found 10 = .ok (.iconst 1, 1) := by decide +kernel
theorem d_Escape_found_11 : decode b_Escape_found 11 = .ok (.ireturn, 1) := by decide +kernel
abbrev b_Escape_readControl : ByteArray := prog_5_method_6_code
abbrev y_Escape_readControl : MethodName := ⟨"ReplacementWriter$Escape", "readControl", "(II)Z"⟩
theorem d_Escape_readControl_0 : decode b_Escape_readControl 0 = .ok (.iload_n 1, 1) := by decide +kernel
theorem d_Escape_readControl_1 : decode b_Escape_readControl 1 = .ok (.iload_n 2, 1) := by decide +kernel
theorem d_Escape_readControl_2 : decode b_Escape_readControl 2 = .ok (.if_icmp .ge 14, 3) := by decide +kernel
theorem d_Escape_readControl_5 : decode b_Escape_readControl 5 = .ok (.aload_n 0, 1) := by decide +kernel
theorem d_Escape_readControl_6 : decode b_Escape_readControl 6 = .ok (.getfield 16, 3) := by decide +kernel
theorem d_Escape_readControl_9 : decode b_Escape_readControl 9 = .ok (.iload_n 1, 1) := by decide +kernel
theorem d_Escape_readControl_10 : decode b_Escape_readControl 10 = .ok (.invokevirtual 24, 3) := by decide +kernel
theorem d_Escape_readControl_13 : decode b_Escape_readControl 13 = .ok (.goto 4, 3) := by decide +kernel
theorem d_Escape_readControl_16 : decode b_Escape_readControl 16 = .ok (.iconst (-1), 1) := by decide +kernel
theorem d_Escape_readControl_17 : decode b_Escape_readControl 17 = .ok (.istore_n 3, 1) := by decide +kernel
theorem d_Escape_readControl_18 : decode b_Escape_readControl 18 = .ok (.iload_n 3, 1) := by decide +kernel
theorem d_Escape_readControl_19 : decode b_Escape_readControl 19 = .ok (.bipush 32, 2) := by decide +kernel
theorem d_Escape_readControl_21 : decode b_Escape_readControl 21 = .ok (.if_icmp .lt 9, 3) := by decide +kernel
theorem d_Escape_readControl_24 : decode b_Escape_readControl 24 = .ok (.iload_n 3, 1) := by decide +kernel
theorem d_Escape_readControl_25 : decode b_Escape_readControl 25 = .ok (.bipush 126, 2) := by decide +kernel
theorem d_Escape_readControl_27 : decode b_Escape_readControl 27 = .ok (.if_icmp .le 5, 3) := by decide +kernel
theorem d_Escape_readControl_30 : decode b_Escape_readControl 30 = .ok (.iconst 0, 1) := by decide +kernel
theorem d_Escape_readControl_31 : decode b_Escape_readControl 31 = .ok (.ireturn, 1) := by decide +kernel
theorem d_Escape_readControl_32 : decode b_Escape_readControl 32 = .ok (.iload_n 3, 1) := by decide +kernel
theorem d_Escape_readControl_33 : decode b_Escape_readControl 33 = .ok (.bipush 97, 2) := by decide +kernel
theorem d_Escape_readControl_35 : decode b_Escape_readControl 35 = .ok (.if_icmp .lt 16, 3) := by decide +kernel
theorem d_Escape_readControl_38 : decode b_Escape_readControl 38 = .ok (.iload_n 3, 1) := by decide +kernel
theorem d_Escape_readControl_39 : decode b_Escape_readControl 39 = .ok (.bipush 122, 2) := by decide +kernel
theorem d_Escape_readControl_41 : decode b_Escape_readControl 41 = .ok (.if_icmp .gt 10, 3) := by decide +kernel
theorem d_Escape_readControl_44 : decode b_Escape_readControl 44 = .ok (.iload_n 3, 1) := by decide +kernel
theorem d_Escape_readControl_45 : decode b_Escape_readControl 45 = .ok (.bipush 32, 2) := by decide +kernel
theorem d_Escape_readControl_47 : decode b_Escape_readControl 47 = .ok (.isub, 1) := by decide +kernel
theorem d_Escape_readControl_48 : decode b_Escape_readControl 48 = .ok (.goto 4, 3) := by decide +kernel
theorem d_Escape_readControl_51 : decode b_Escape_readControl 51 = .ok (.iload_n 3, 1) := by decide +kernel
theorem d_Escape_readControl_52 : decode b_Escape_readControl 52 = .ok (.istore 4, 2) := by decide +kernel
theorem d_Escape_readControl_54 : decode b_Escape_readControl 54 = .ok (.aload_n 0, 1) := by decide +kernel
theorem d_Escape_readControl_55 : decode b_Escape_readControl 55 = .ok (.iload 4, 2) := by decide +kernel
theorem d_Escape_readControl_57 : decode b_Escape_readControl 57 = .ok (.bipush 64, 2) := by decide +kernel
theorem d_Escape_readControl_59 : decode b_Escape_readControl 59 = .ok (.ixor, 1) := by decide +kernel
theorem d_Escape_readControl_60 : decode b_Escape_readControl 60 = .ok (.iload_n 1, 1) := by decide +kernel
theorem d_Escape_readControl_61 : decode b_Escape_readControl 61 = .ok (.iconst 1, 1) := by decide +kernel
theorem d_Escape_readControl_62 : decode b_Escape_readControl 62 = .ok (.iadd, 1) := by decide +kernel
theorem d_Escape_readControl_63 : decode b_Escape_readControl 63 = .ok (.invokevirtual 30, 3) := by decide +kernel
theorem d_Escape_readControl_66 : decode b_Escape_readControl 66 = .ok (.ireturn, 1) := by decide +kernel
abbrev b_Escape_readBare : ByteArray := prog_5_method_7_code
abbrev y_Escape_readBare : MethodName := ⟨"ReplacementWriter$Escape", "readBare", "(III)Z"⟩
theorem d_Escape_readBare_0 : decode b_Escape_readBare 0 = .ok (.aload_n 0, 1) := by decide +kernel
theorem d_Escape_readBare_1 : decode b_Escape_readBare 1 = .ok (.iload_n 1, 1) := by decide +kernel
theorem d_Escape_readBare_2 : decode b_Escape_readBare 2 = .ok (.iload_n 2, 1) := by decide +kernel
theorem d_Escape_readBare_3 : decode b_Escape_readBare 3 = .ok (.iload_n 1, 1) := by decide +kernel
theorem d_Escape_readBare_4 : decode b_Escape_readBare 4 = .ok (.iconst 2, 1) := by decide +kernel
theorem d_Escape_readBare_5 : decode b_Escape_readBare 5 = .ok (.iadd, 1) := by decide +kernel
theorem d_Escape_readBare_6 : decode b_Escape_readBare 6 = .ok (.invokestatic 44, 3) := by decide +kernel
theorem d_Escape_readBare_9 : decode b_Escape_readBare 9 = .ok (.iload_n 3, 1) := by decide +kernel
theorem d_Escape_readBare_10 : decode b_Escape_readBare 10 = .ok (.invokevirtual 50, 3) := by decide +kernel
theorem d_Escape_readBare_13 : decode b_Escape_readBare 13 = .ok (.istore 4, 2) := by decide +kernel
theorem d_Escape_readBare_15 : decode b_Escape_readBare 15 = .ok (.aload_n 0, 1) := by decide +kernel
theorem d_Escape_readBare_16 : decode b_Escape_readBare 16 = .ok (.aload_n 0, 1) := by decide +kernel
theorem d_Escape_readBare_17 : decode b_Escape_readBare 17 = .ok (.iload_n 1, 1) := by decide +kernel
theorem d_Escape_readBare_18 : decode b_Escape_readBare 18 = .ok (.iload 4, 2) := by decide +kernel
theorem d_Escape_readBare_20 : decode b_Escape_readBare 20 = .ok (.iload_n 3, 1) := by decide +kernel
theorem d_Escape_readBare_21 : decode b_Escape_readBare 21 = .ok (.invokevirtual 54, 3) := by decide +kernel
theorem d_Escape_readBare_24 : decode b_Escape_readBare 24 = .ok (.l2i, 1) := by decide +kernel
theorem d_Escape_readBare_25 : decode b_Escape_readBare 25 = .ok (.iload 4, 2) := by decide +kernel
theorem d_Escape_readBare_27 : decode b_Escape_readBare 27 = .ok (.invokevirtual 30, 3) := by decide +kernel
theorem d_Escape_readBare_30 : decode b_Escape_readBare 30 = .ok (.ireturn, 1) := by decide +kernel
abbrev b_Escape_digitsEnd : ByteArray := prog_5_method_9_code
abbrev y_Escape_digitsEnd : MethodName := ⟨"ReplacementWriter$Escape", "digitsEnd", "(III)I"⟩
theorem d_Escape_digitsEnd_0 : decode b_Escape_digitsEnd 0 = .ok (.iload_n 1, 1) := by decide +kernel
theorem d_Escape_digitsEnd_1 : decode b_Escape_digitsEnd 1 = .ok (.istore 4, 2) := by decide +kernel
theorem d_Escape_digitsEnd_3 : decode b_Escape_digitsEnd 3 = .ok (.iload 4, 2) := by decide +kernel
theorem d_Escape_digitsEnd_5 : decode b_Escape_digitsEnd 5 = .ok (.iload_n 2, 1) := by decide +kernel
theorem d_Escape_digitsEnd_6 : decode b_Escape_digitsEnd 6 = .ok (.if_icmp .ge 25, 3) := by decide +kernel
theorem d_Escape_digitsEnd_9 : decode b_Escape_digitsEnd 9 = .ok (.aload_n 0, 1) := by decide +kernel
theorem d_Escape_digitsEnd_10 : decode b_Escape_digitsEnd 10 = .ok (.getfield 16, 3) := by decide +kernel
theorem d_Escape_digitsEnd_13 : decode b_Escape_digitsEnd 13 = .ok (.iload 4, 2) := by decide +kernel
theorem d_Escape_digitsEnd_15 : decode b_Escape_digitsEnd 15 = .ok (.invokevirtual 24, 3) := by decide +kernel
theorem d_Escape_digitsEnd_18 : decode b_Escape_digitsEnd 18 = .ok (.iload_n 3, 1) := by decide +kernel
theorem d_Escape_digitsEnd_19 : decode b_Escape_digitsEnd 19 = .ok (.invokestatic 64, 3) := by decide +kernel
theorem d_Escape_digitsEnd_22 : decode b_Escape_digitsEnd 22 = .ok (.ifCond .lt 9, 3) := by decide +kernel
theorem d_Escape_digitsEnd_25 : decode b_Escape_digitsEnd 25 = .ok (.iinc 4 1, 3) := by decide +kernel
theorem d_Escape_digitsEnd_28 : decode b_Escape_digitsEnd 28 = .ok (.goto (-25), 3) := by decide +kernel
theorem d_Escape_digitsEnd_31 : decode b_Escape_digitsEnd 31 = .ok (.iload 4, 2) := by decide +kernel
theorem d_Escape_digitsEnd_33 : decode b_Escape_digitsEnd 33 = .ok (.ireturn, 1) := by decide +kernel
abbrev b_Escape_valueOf : ByteArray := prog_5_method_10_code
abbrev y_Escape_valueOf : MethodName := ⟨"ReplacementWriter$Escape", "valueOf", "(III)J"⟩
theorem d_Escape_valueOf_0 : decode b_Escape_valueOf 0 = .ok (.lconst 0, 1) := by decide +kernel
theorem d_Escape_valueOf_1 : decode b_Escape_valueOf 1 = .ok (.lstore 4, 2) := by decide +kernel
theorem d_Escape_valueOf_3 : decode b_Escape_valueOf 3 = .ok (.iload_n 1, 1) := by decide +kernel
theorem d_Escape_valueOf_4 : decode b_Escape_valueOf 4 = .ok (.istore 6, 2) := by decide +kernel
theorem d_Escape_valueOf_6 : decode b_Escape_valueOf 6 = .ok (.iload 6, 2) := by decide +kernel
theorem d_Escape_valueOf_8 : decode b_Escape_valueOf 8 = .ok (.iload_n 2, 1) := by decide +kernel
theorem d_Escape_valueOf_9 : decode b_Escape_valueOf 9 = .ok (.if_icmp .ge 31, 3) := by decide +kernel
theorem d_Escape_valueOf_12 : decode b_Escape_valueOf 12 = .ok (.lload 4, 2) := by decide +kernel
theorem d_Escape_valueOf_14 : decode b_Escape_valueOf 14 = .ok (.iload_n 3, 1) := by decide +kernel
theorem d_Escape_valueOf_15 : decode b_Escape_valueOf 15 = .ok (.i2l, 1) := by decide +kernel
theorem d_Escape_valueOf_16 : decode b_Escape_valueOf 16 = .ok (.lmul, 1) := by decide +kernel
theorem d_Escape_valueOf_17 : decode b_Escape_valueOf 17 = .ok (.aload_n 0, 1) := by decide +kernel
theorem d_Escape_valueOf_18 : decode b_Escape_valueOf 18 = .ok (.getfield 16, 3) := by decide +kernel
theorem d_Escape_valueOf_21 : decode b_Escape_valueOf 21 = .ok (.iload 6, 2) := by decide +kernel
theorem d_Escape_valueOf_23 : decode b_Escape_valueOf 23 = .ok (.invokevirtual 24, 3) := by decide +kernel
theorem d_Escape_valueOf_26 : decode b_Escape_valueOf 26 = .ok (.iload_n 3, 1) := by decide +kernel
theorem d_Escape_valueOf_27 : decode b_Escape_valueOf 27 = .ok (.invokestatic 64, 3) := by decide +kernel
theorem d_Escape_valueOf_30 : decode b_Escape_valueOf 30 = .ok (.i2l, 1) := by decide +kernel
theorem d_Escape_valueOf_31 : decode b_Escape_valueOf 31 = .ok (.ladd, 1) := by decide +kernel
theorem d_Escape_valueOf_32 : decode b_Escape_valueOf 32 = .ok (.lstore 4, 2) := by decide +kernel
theorem d_Escape_valueOf_34 : decode b_Escape_valueOf 34 = .ok (.iinc 6 1, 3) := by decide +kernel
theorem d_Escape_valueOf_37 : decode b_Escape_valueOf 37 = .ok (.goto (-31), 3) := by decide +kernel
theorem d_Escape_valueOf_40 : decode b_Escape_valueOf 40 = .ok (.lload 4, 2) := by decide +kernel
theorem d_Escape_valueOf_42 : decode b_Escape_valueOf 42 = .ok (.lreturn, 1) := by decide +kernel
abbrev b_Escape_readBraced : ByteArray := prog_5_method_8_code
abbrev y_Escape_readBraced : MethodName := ⟨"ReplacementWriter$Escape", "readBraced", "(III)Z"⟩
theorem d_Escape_readBraced_0 : decode b_Escape_readBraced 0 = .ok (.iload_n 1, 1) := by decide +kernel
theorem d_Escape_readBraced_1 : decode b_Escape_readBraced 1 = .ok (.iload_n 2, 1) := by decide +kernel
theorem d_Escape_readBraced_2 : decode b_Escape_readBraced 2 = .ok (.if_icmp .ge 16, 3) := by decide +kernel
theorem d_Escape_readBraced_5 : decode b_Escape_readBraced 5 = .ok (.aload_n 0, 1) := by decide +kernel
theorem d_Escape_readBraced_6 : decode b_Escape_readBraced 6 = .ok (.getfield 16, 3) := by decide +kernel
theorem d_Escape_readBraced_9 : decode b_Escape_readBraced 9 = .ok (.iload_n 1, 1) := by decide +kernel
theorem d_Escape_readBraced_10 : decode b_Escape_readBraced 10 = .ok (.invokevirtual 24, 3) := by decide +kernel
theorem d_Escape_readBraced_13 : decode b_Escape_readBraced 13 = .ok (.bipush 123, 2) := by decide +kernel
theorem d_Escape_readBraced_15 : decode b_Escape_readBraced 15 = .ok (.if_icmp .eq 5, 3) := by decide +kernel
theorem d_Escape_readBraced_18 : decode b_Escape_readBraced 18 = .ok (.iconst 0, 1) := by decide +kernel
theorem d_Escape_readBraced_19 : decode b_Escape_readBraced 19 = .ok (.ireturn, 1) := by decide +kernel
theorem d_Escape_readBraced_20 : decode b_Escape_readBraced 20 = .ok (.iload_n 1, 1) := by decide +kernel
theorem d_Escape_readBraced_21 : decode b_Escape_readBraced 21 = .ok (.iconst 1, 1) := by decide +kernel
theorem d_Escape_readBraced_22 : decode b_Escape_readBraced 22 = .ok (.iadd, 1) := by decide +kernel
theorem d_Escape_readBraced_23 : decode b_Escape_readBraced 23 = .ok (.istore 4, 2) := by decide +kernel
theorem d_Escape_readBraced_25 : decode b_Escape_readBraced 25 = .ok (.aload_n 0, 1) := by decide +kernel
theorem d_Escape_readBraced_26 : decode b_Escape_readBraced 26 = .ok (.iload 4, 2) := by decide +kernel
theorem d_Escape_readBraced_28 : decode b_Escape_readBraced 28 = .ok (.iload_n 2, 1) := by decide +kernel
theorem d_Escape_readBraced_29 : decode b_Escape_readBraced 29 = .ok (.iload 4, 2) := by decide +kernel
theorem d_Escape_readBraced_31 : decode b_Escape_readBraced 31 = .ok (.bipush 8, 2) := by decide +kernel
theorem d_Escape_readBraced_33 : decode b_Escape_readBraced 33 = .ok (.iadd, 1) := by decide +kernel
theorem d_Escape_readBraced_34 : decode b_Escape_readBraced 34 = .ok (.invokestatic 44, 3) := by decide +kernel
theorem d_Escape_readBraced_37 : decode b_Escape_readBraced 37 = .ok (.iload_n 3, 1) := by decide +kernel
theorem d_Escape_readBraced_38 : decode b_Escape_readBraced 38 = .ok (.invokevirtual 50, 3) := by decide +kernel
theorem d_Escape_readBraced_41 : decode b_Escape_readBraced 41 = .ok (.istore 5, 2) := by decide +kernel
theorem d_Escape_readBraced_43 : decode b_Escape_readBraced 43 = .ok (.iload 5, 2) := by decide +kernel
theorem d_Escape_readBraced_45 : decode b_Escape_readBraced 45 = .ok (.iload 4, 2) := by decide +kernel
theorem d_Escape_readBraced_47 : decode b_Escape_readBraced 47 = .ok (.if_icmp .eq 23, 3) := by decide +kernel
theorem d_Escape_readBraced_50 : decode b_Escape_readBraced 50 = .ok (.iload 5, 2) := by decide +kernel
theorem d_Escape_readBraced_52 : decode b_Escape_readBraced 52 = .ok (.iload_n 2, 1) := by decide +kernel
theorem d_Escape_readBraced_53 : decode b_Escape_readBraced 53 = .ok (.if_icmp .ge 17, 3) := by decide +kernel
theorem d_Escape_readBraced_56 : decode b_Escape_readBraced 56 = .ok (.aload_n 0, 1) := by decide +kernel
theorem d_Escape_readBraced_57 : decode b_Escape_readBraced 57 = .ok (.getfield 16, 3) := by decide +kernel
theorem d_Escape_readBraced_60 : decode b_Escape_readBraced 60 = .ok (.iload 5, 2) := by decide +kernel
theorem d_Escape_readBraced_62 : decode b_Escape_readBraced 62 = .ok (.invokevirtual 24, 3) := by decide +kernel
theorem d_Escape_readBraced_65 : decode b_Escape_readBraced 65 = .ok (.bipush 125, 2) := by decide +kernel
theorem d_Escape_readBraced_67 : decode b_Escape_readBraced 67 = .ok (.if_icmp .eq 5, 3) := by decide +kernel
theorem d_Escape_readBraced_70 : decode b_Escape_readBraced 70 = .ok (.iconst 0, 1) := by decide +kernel
theorem d_Escape_readBraced_71 : decode b_Escape_readBraced 71 = .ok (.ireturn, 1) := by decide +kernel
theorem d_Escape_readBraced_72 : decode b_Escape_readBraced 72 = .ok (.aload_n 0, 1) := by decide +kernel
theorem d_Escape_readBraced_73 : decode b_Escape_readBraced 73 = .ok (.iload 4, 2) := by decide +kernel
theorem d_Escape_readBraced_75 : decode b_Escape_readBraced 75 = .ok (.iload 5, 2) := by decide +kernel
theorem d_Escape_readBraced_77 : decode b_Escape_readBraced 77 = .ok (.iload_n 3, 1) := by decide +kernel
theorem d_Escape_readBraced_78 : decode b_Escape_readBraced 78 = .ok (.invokevirtual 54, 3) := by decide +kernel
theorem d_Escape_readBraced_81 : decode b_Escape_readBraced 81 = .ok (.lstore 6, 2) := by decide +kernel
theorem d_Escape_readBraced_83 : decode b_Escape_readBraced 83 = .ok (.aload_n 0, 1) := by decide +kernel
theorem d_Escape_readBraced_84 : decode b_Escape_readBraced 84 = .ok (.getfield 20, 3) := by decide +kernel
theorem d_Escape_readBraced_87 : decode b_Escape_readBraced 87 = .ok (.lload 6, 2) := by decide +kernel
theorem d_Escape_readBraced_89 : decode b_Escape_readBraced 89 = .ok (.invokevirtual 58, 3) := by decide +kernel
theorem d_Escape_readBraced_92 : decode b_Escape_readBraced 92 = .ok (.ifCond .eq 21, 3) := by decide +kernel
theorem d_Escape_readBraced_95 : decode b_Escape_readBraced 95 = .ok (.aload_n 0, 1) := by decide +kernel
theorem d_Escape_readBraced_96 : decode b_Escape_readBraced 96 = .ok (.lload 6, 2) := by decide +kernel
theorem d_Escape_readBraced_98 : decode b_Escape_readBraced 98 = .ok (.l2i, 1) := by decide +kernel
theorem d_Escape_readBraced_99 : decode b_Escape_readBraced 99 = .ok (.iload 5, 2) := by decide +kernel
theorem d_Escape_readBraced_101 : decode b_Escape_readBraced 101 = .ok (.iconst 1, 1) := by decide +kernel
theorem d_Escape_readBraced_102 : decode b_Escape_readBraced 102 = .ok (.iadd, 1) := by decide +kernel
theorem d_Escape_readBraced_103 : decode b_Escape_readBraced 103 = .ok (.invokevirtual 30, 3) := by decide +kernel
theorem d_Escape_readBraced_106 : decode b_Escape_readBraced 106 = .ok (.ifCond .eq 7, 3) := by decide +kernel
theorem d_Escape_readBraced_109 : decode b_Escape_readBraced 109 = .ok (.iconst 1, 1) := by decide +kernel
theorem d_Escape_readBraced_110 : decode b_Escape_readBraced 110 = .ok (.goto 4, 3) := by decide +kernel
theorem d_Escape_readBraced_113 : decode b_Escape_readBraced 113 = .ok (.iconst 0, 1) := by decide +kernel
theorem d_Escape_readBraced_114 : decode b_Escape_readBraced 114 = .ok (.ireturn, 1) := by decide +kernel
abbrev b_Escape_character : ByteArray := prog_5_method_2_code
abbrev y_Escape_character : MethodName := ⟨"ReplacementWriter$Escape", "character", "()I"⟩
theorem d_Escape_character_0 : decode b_Escape_character 0 = .ok (.aload_n 0, 1) := by decide +kernel
theorem d_Escape_character_1 : decode b_Escape_character 1 = .ok (.getfield 7, 3) := by decide +kernel
theorem d_Escape_character_4 : decode b_Escape_character 4 = .ok (.ireturn, 1) := by decide +kernel
abbrev b_Escape_next : ByteArray := prog_5_method_3_code
abbrev y_Escape_next : MethodName := ⟨"ReplacementWriter$Escape", "next", "()I"⟩
theorem d_Escape_next_0 : decode b_Escape_next 0 = .ok (.aload_n 0, 1) := by decide +kernel
theorem d_Escape_next_1 : decode b_Escape_next 1 = .ok (.getfield 13, 3) := by decide +kernel
theorem d_Escape_next_4 : decode b_Escape_next 4 = .ok (.ireturn, 1) := by decide +kernel
abbrev b_Writing_code : ByteArray := prog_11_method_3_code
abbrev y_Writing_code : MethodName := ⟨"ReplacementWriter$Writing", "code", "()I"⟩
theorem d_Writing_code_0 : decode b_Writing_code 0 = .ok (.aload_n 0, 1) := by decide +kernel
theorem d_Writing_code_1 : decode b_Writing_code 1 = .ok (.getfield 21, 3) := by decide +kernel
theorem d_Writing_code_4 : decode b_Writing_code 4 = .ok (.ireturn, 1) := by decide +kernel
abbrev b_Writing_offset : ByteArray := prog_11_method_4_code
abbrev y_Writing_offset : MethodName := ⟨"ReplacementWriter$Writing", "offset", "()I"⟩
theorem d_Writing_offset_0 : decode b_Writing_offset 0 = .ok (.aload_n 0, 1) := by decide +kernel
theorem d_Writing_offset_1 : decode b_Writing_offset 1 = .ok (.getfield 25, 3) := by decide +kernel
theorem d_Writing_offset_4 : decode b_Writing_offset 4 = .ok (.ireturn, 1) := by decide +kernel
abbrev b_RW_result : ByteArray := prog_1_method_12_code
abbrev y_RW_result : MethodName := ⟨"ReplacementWriter", "result", "(I)I"⟩
theorem d_RW_result_0 : decode b_RW_result 0 = .ok (.aload_n 0, 1) := by decide +kernel
theorem d_RW_result_1 : decode b_RW_result 1 = .ok (.getfield 52, 3) := by decide +kernel
theorem d_RW_result_4 : decode b_RW_result 4 = .ok (.invokevirtual 146, 3) := by decide +kernel
theorem d_RW_result_7 : decode b_RW_result 7 = .ok (.iload_n 1, 1) := by decide +kernel
theorem d_RW_result_8 : decode b_RW_result 8 = .ok (.invokevirtual 150, 3) := by decide +kernel
theorem d_RW_result_11 : decode b_RW_result 11 = .ok (.istore_n 2, 1) := by decide +kernel
theorem d_RW_result_12 : decode b_RW_result 12 = .ok (.iload_n 2, 1) := by decide +kernel
theorem d_RW_result_13 : decode b_RW_result 13 = .ok (.ifCond .ge 11, 3) := by decide +kernel
theorem d_RW_result_16 : decode b_RW_result 16 = .ok (.new 154, 3) := by decide +kernel
theorem d_RW_result_19 : decode b_RW_result 19 = .ok (.dup, 1) := by decide +kernel
theorem d_RW_result_20 : decode b_RW_result 20 = .ok (.invokespecial 156, 3) := by decide +kernel
theorem d_RW_result_23 : decode b_RW_result 23 = .ok (.athrow, 1) := by decide +kernel
theorem d_RW_result_24 : decode b_RW_result 24 = .ok (.iload_n 2, 1) := by decide +kernel
theorem d_RW_result_25 : decode b_RW_result 25 = .ok (.ireturn, 1) := by decide +kernel
abbrev b_RW_fault : ByteArray := prog_1_method_13_code
abbrev y_RW_fault : MethodName := ⟨"ReplacementWriter", "fault", "(I)I"⟩
theorem d_RW_fault_0 : decode b_RW_fault 0 = .ok (.iload_n 1, 1) := by decide +kernel
theorem d_RW_fault_1 : decode b_RW_fault 1 = .ok (.ifCond .eq 16, 3) := by decide +kernel
theorem d_RW_fault_4 : decode b_RW_fault 4 = .ok (.iload_n 1, 1) := by decide +kernel
theorem d_RW_fault_5 : decode b_RW_fault 5 = .ok (.iconst 1, 1) := by decide +kernel
theorem d_RW_fault_6 : decode b_RW_fault 6 = .ok (.if_icmp .eq 11, 3) := by decide +kernel
theorem d_RW_fault_9 : decode b_RW_fault 9 = .ok (.new 78, 3) := by decide +kernel
theorem d_RW_fault_12 : decode b_RW_fault 12 = .ok (.dup, 1) := by decide +kernel
theorem d_RW_fault_13 : decode b_RW_fault 13 = .ok (.invokespecial 80, 3) := by decide +kernel
theorem d_RW_fault_16 : decode b_RW_fault 16 = .ok (.athrow, 1) := by decide +kernel
theorem d_RW_fault_17 : decode b_RW_fault 17 = .ok (.iload_n 1, 1) := by decide +kernel
theorem d_RW_fault_18 : decode b_RW_fault 18 = .ok (.ifCond .ne 10, 3) := by decide +kernel
theorem d_RW_fault_21 : decode b_RW_fault 21 = .ok (.aload_n 0, 1) := by decide +kernel
theorem d_RW_fault_22 : decode b_RW_fault 22 = .ok (.getfield 26, 3) := by decide +kernel
theorem d_RW_fault_25 : decode b_RW_fault 25 = .ok (.goto 7, 3) := by decide +kernel
theorem d_RW_fault_28 : decode b_RW_fault 28 = .ok (.aload_n 0, 1) := by decide +kernel
theorem d_RW_fault_29 : decode b_RW_fault 29 = .ok (.getfield 30, 3) := by decide +kernel
theorem d_RW_fault_32 : decode b_RW_fault 32 = .ok (.ireturn, 1) := by decide +kernel
