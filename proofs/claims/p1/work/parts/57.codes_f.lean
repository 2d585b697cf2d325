/-! Codes and what decodes from them. Laid by mkbase.py. -/
abbrev b_Law_cell : ByteArray := method_2_code
abbrev y_Law_cell : MethodName := ⟨"ReplacementWriterLaw", "cell", "([II)I"⟩
theorem d_Law_cell_0 : decode b_Law_cell 0 = .ok (.iload_n 1, 1) := by decide +kernel
theorem d_Law_cell_1 : decode b_Law_cell 1 = .ok (.aload_n 0, 1) := by decide +kernel
theorem d_Law_cell_2 : decode b_Law_cell 2 = .ok (.arraylength, 1) := by decide +kernel
theorem d_Law_cell_3 : decode b_Law_cell 3 = .ok (.if_icmp .ge 9, 3) := by decide +kernel
theorem d_Law_cell_6 : decode b_Law_cell 6 = .ok (.aload_n 0, 1) := by decide +kernel
theorem d_Law_cell_7 : decode b_Law_cell 7 = .ok (.iload_n 1, 1) := by decide +kernel
theorem d_Law_cell_8 : decode b_Law_cell 8 = .ok (.iaload, 1) := by decide +kernel
theorem d_Law_cell_9 : decode b_Law_cell 9 = .ok (.goto 4, 3) := by decide +kernel
theorem d_Law_cell_12 : decode b_Law_cell 12 = .ok (.iconst 0, 1) := by decide +kernel
theorem d_Law_cell_13 : decode b_Law_cell 13 = .ok (.ireturn, 1) := by decide +kernel
abbrev b_Law_feed : ByteArray := method_3_code
abbrev y_Law_feed : MethodName := ⟨"ReplacementWriterLaw", "feed", "(LReplacementWriter;IIIII[J)I"⟩
theorem d_Law_feed_0 : decode b_Law_feed 0 = .ok (.aload 6, 2) := by decide +kernel
theorem d_Law_feed_2 : decode b_Law_feed 2 = .ok (.iconst 0, 1) := by decide +kernel
theorem d_Law_feed_3 : decode b_Law_feed 3 = .ok (.aload_n 0, 1) := by decide +kernel
theorem d_Law_feed_4 : decode b_Law_feed 4 = .ok (.iload_n 1, 1) := by decide +kernel
theorem d_Law_feed_5 : decode b_Law_feed 5 = .ok (.iload_n 2, 1) := by decide +kernel
theorem d_Law_feed_6 : decode b_Law_feed 6 = .ok (.iload_n 3, 1) := by decide +kernel
theorem d_Law_feed_7 : decode b_Law_feed 7 = .ok (.iload 4, 2) := by decide +kernel
theorem d_Law_feed_9 : decode b_Law_feed 9 = .ok (.iload 5, 2) := by decide +kernel
theorem d_Law_feed_11 : decode b_Law_feed 11 = .ok (.invokevirtual 7, 3) := by decide +kernel
theorem d_Law_feed_14 : decode b_Law_feed 14 = .ok (.i2l, 1) := by decide +kernel
theorem d_Law_feed_15 : decode b_Law_feed 15 = .ok (.lastore, 1) := by decide +kernel
theorem d_Law_feed_16 : decode b_Law_feed 16 = .ok (.goto 7, 3) := by decide +kernel
theorem d_Law_feed_19 : decode b_Law_feed 19 = .ok (.astore 7, 2) := by decide +kernel
theorem d_Law_feed_21 : decode b_Law_feed 21 = .ok (.iconst 1, 1) := by decide +kernel
theorem d_Law_feed_22 : decode b_Law_feed 22 = .ok (.ireturn, 1) := by decide +kernel
theorem d_Law_feed_23 : decode b_Law_feed 23 = .ok (.iconst 0, 1) := by decide +kernel
theorem d_Law_feed_24 : decode b_Law_feed 24 = .ok (.ireturn, 1) := by decide +kernel
abbrev b_Law_end : ByteArray := method_4_code
abbrev y_Law_end : MethodName := ⟨"ReplacementWriterLaw", "end", "(LReplacementWriter;I[J)I"⟩
theorem d_Law_end_0 : decode b_Law_end 0 = .ok (.aload_n 2, 1) := by decide +kernel
theorem d_Law_end_1 : decode b_Law_end 1 = .ok (.iconst 0, 1) := by decide +kernel
theorem d_Law_end_2 : decode b_Law_end 2 = .ok (.aload_n 0, 1) := by decide +kernel
theorem d_Law_end_3 : decode b_Law_end 3 = .ok (.iload_n 1, 1) := by decide +kernel
theorem d_Law_end_4 : decode b_Law_end 4 = .ok (.invokevirtual 15, 3) := by decide +kernel
theorem d_Law_end_7 : decode b_Law_end 7 = .ok (.i2l, 1) := by decide +kernel
theorem d_Law_end_8 : decode b_Law_end 8 = .ok (.lastore, 1) := by decide +kernel
theorem d_Law_end_9 : decode b_Law_end 9 = .ok (.goto 6, 3) := by decide +kernel
theorem d_Law_end_12 : decode b_Law_end 12 = .ok (.astore_n 3, 1) := by decide +kernel
theorem d_Law_end_13 : decode b_Law_end 13 = .ok (.iconst 1, 1) := by decide +kernel
theorem d_Law_end_14 : decode b_Law_end 14 = .ok (.ireturn, 1) := by decide +kernel
theorem d_Law_end_15 : decode b_Law_end 15 = .ok (.iconst 0, 1) := by decide +kernel
theorem d_Law_end_16 : decode b_Law_end 16 = .ok (.ireturn, 1) := by decide +kernel
abbrev b_Law_groups : ByteArray := method_5_code
abbrev y_Law_groups : MethodName := ⟨"ReplacementWriterLaw", "groups", "(LReplacementWriter;I)I"⟩
theorem d_Law_groups_0 : decode b_Law_groups 0 = .ok (.aload_n 0, 1) := by decide +kernel
theorem d_Law_groups_1 : decode b_Law_groups 1 = .ok (.iload_n 1, 1) := by decide +kernel
theorem d_Law_groups_2 : decode b_Law_groups 2 = .ok (.invokevirtual 21, 3) := by decide +kernel
theorem d_Law_groups_5 : decode b_Law_groups 5 = .ok (.goto 6, 3) := by decide +kernel
theorem d_Law_groups_8 : decode b_Law_groups 8 = .ok (.astore_n 2, 1) := by decide +kernel
theorem d_Law_groups_9 : decode b_Law_groups 9 = .ok (.iconst 1, 1) := by decide +kernel
theorem d_Law_groups_10 : decode b_Law_groups 10 = .ok (.ireturn, 1) := by decide +kernel
theorem d_Law_groups_11 : decode b_Law_groups 11 = .ok (.iconst 0, 1) := by decide +kernel
theorem d_Law_groups_12 : decode b_Law_groups 12 = .ok (.ireturn, 1) := by decide +kernel
abbrev b_Law_set : ByteArray := method_6_code
abbrev y_Law_set : MethodName := ⟨"ReplacementWriterLaw", "set", "(LReplacementWriter;I[J)I"⟩
theorem d_Law_set_0 : decode b_Law_set 0 = .ok (.aload_n 2, 1) := by decide +kernel
theorem d_Law_set_1 : decode b_Law_set 1 = .ok (.iconst 0, 1) := by decide +kernel
theorem d_Law_set_2 : decode b_Law_set 2 = .ok (.aload_n 0, 1) := by decide +kernel
theorem d_Law_set_3 : decode b_Law_set 3 = .ok (.iload_n 1, 1) := by decide +kernel
theorem d_Law_set_4 : decode b_Law_set 4 = .ok (.invokevirtual 25, 3) := by decide +kernel
theorem d_Law_set_7 : decode b_Law_set 7 = .ok (.i2l, 1) := by decide +kernel
theorem d_Law_set_8 : decode b_Law_set 8 = .ok (.lastore, 1) := by decide +kernel
theorem d_Law_set_9 : decode b_Law_set 9 = .ok (.goto 9, 3) := by decide +kernel
theorem d_Law_set_12 : decode b_Law_set 12 = .ok (.astore_n 3, 1) := by decide +kernel
theorem d_Law_set_13 : decode b_Law_set 13 = .ok (.iconst 1, 1) := by decide +kernel
theorem d_Law_set_14 : decode b_Law_set 14 = .ok (.ireturn, 1) := by decide +kernel
theorem d_Law_set_15 : decode b_Law_set 15 = .ok (.astore_n 3, 1) := by decide +kernel
theorem d_Law_set_16 : decode b_Law_set 16 = .ok (.iconst 2, 1) := by decide +kernel
theorem d_Law_set_17 : decode b_Law_set 17 = .ok (.ireturn, 1) := by decide +kernel
theorem d_Law_set_18 : decode b_Law_set 18 = .ok (.iconst 0, 1) := by decide +kernel
theorem d_Law_set_19 : decode b_Law_set 19 = .ok (.ireturn, 1) := by decide +kernel
abbrev b_Law_unset : ByteArray := method_7_code
abbrev y_Law_unset : MethodName := ⟨"ReplacementWriterLaw", "unset", "(LReplacementWriter;I)I"⟩
theorem d_Law_unset_0 : decode b_Law_unset 0 = .ok (.aload_n 0, 1) := by decide +kernel
theorem d_Law_unset_1 : decode b_Law_unset 1 = .ok (.iload_n 1, 1) := by decide +kernel
theorem d_Law_unset_2 : decode b_Law_unset 2 = .ok (.invokevirtual 30, 3) := by decide +kernel
theorem d_Law_unset_5 : decode b_Law_unset 5 = .ok (.goto 6, 3) := by decide +kernel
theorem d_Law_unset_8 : decode b_Law_unset 8 = .ok (.astore_n 2, 1) := by decide +kernel
theorem d_Law_unset_9 : decode b_Law_unset 9 = .ok (.iconst 1, 1) := by decide +kernel
theorem d_Law_unset_10 : decode b_Law_unset 10 = .ok (.ireturn, 1) := by decide +kernel
theorem d_Law_unset_11 : decode b_Law_unset 11 = .ok (.iconst 0, 1) := by decide +kernel
theorem d_Law_unset_12 : decode b_Law_unset 12 = .ok (.ireturn, 1) := by decide +kernel
abbrev b_Law_name : ByteArray := method_8_code
abbrev y_Law_name : MethodName := ⟨"ReplacementWriterLaw", "name", "(LReplacementWriter;I[J)I"⟩
theorem d_Law_name_0 : decode b_Law_name 0 = .ok (.aload_n 2, 1) := by decide +kernel
theorem d_Law_name_1 : decode b_Law_name 1 = .ok (.iconst 0, 1) := by decide +kernel
theorem d_Law_name_2 : decode b_Law_name 2 = .ok (.aload_n 0, 1) := by decide +kernel
theorem d_Law_name_3 : decode b_Law_name 3 = .ok (.iload_n 1, 1) := by decide +kernel
theorem d_Law_name_4 : decode b_Law_name 4 = .ok (.invokevirtual 33, 3) := by decide +kernel
theorem d_Law_name_7 : decode b_Law_name 7 = .ok (.i2l, 1) := by decide +kernel
theorem d_Law_name_8 : decode b_Law_name 8 = .ok (.lastore, 1) := by decide +kernel
theorem d_Law_name_9 : decode b_Law_name 9 = .ok (.goto 9, 3) := by decide +kernel
theorem d_Law_name_12 : decode b_Law_name 12 = .ok (.astore_n 3, 1) := by decide +kernel
theorem d_Law_name_13 : decode b_Law_name 13 = .ok (.iconst 1, 1) := by decide +kernel
theorem d_Law_name_14 : decode b_Law_name 14 = .ok (.ireturn, 1) := by decide +kernel
theorem d_Law_name_15 : decode b_Law_name 15 = .ok (.astore_n 3, 1) := by decide +kernel
theorem d_Law_name_16 : decode b_Law_name 16 = .ok (.iconst 2, 1) := by decide +kernel
theorem d_Law_name_17 : decode b_Law_name 17 = .ok (.ireturn, 1) := by decide +kernel
theorem d_Law_name_18 : decode b_Law_name 18 = .ok (.iconst 0, 1) := by decide +kernel
theorem d_Law_name_19 : decode b_Law_name 19 = .ok (.ireturn, 1) := by decide +kernel
abbrev b_Law_mark : ByteArray := method_9_code
abbrev y_Law_mark : MethodName := ⟨"ReplacementWriterLaw", "mark", "(LReplacementWriter;[J)I"⟩
theorem d_Law_mark_0 : decode b_Law_mark 0 = .ok (.aload_n 1, 1) := by decide +kernel
theorem d_Law_mark_1 : decode b_Law_mark 1 = .ok (.iconst 0, 1) := by decide +kernel
theorem d_Law_mark_2 : decode b_Law_mark 2 = .ok (.aload_n 0, 1) := by decide +kernel
theorem d_Law_mark_3 : decode b_Law_mark 3 = .ok (.invokevirtual 36, 3) := by decide +kernel
theorem d_Law_mark_6 : decode b_Law_mark 6 = .ok (.i2l, 1) := by decide +kernel
theorem d_Law_mark_7 : decode b_Law_mark 7 = .ok (.lastore, 1) := by decide +kernel
theorem d_Law_mark_8 : decode b_Law_mark 8 = .ok (.goto 6, 3) := by decide +kernel
theorem d_Law_mark_11 : decode b_Law_mark 11 = .ok (.astore_n 2, 1) := by decide +kernel
theorem d_Law_mark_12 : decode b_Law_mark 12 = .ok (.iconst 1, 1) := by decide +kernel
theorem d_Law_mark_13 : decode b_Law_mark 13 = .ok (.ireturn, 1) := by decide +kernel
theorem d_Law_mark_14 : decode b_Law_mark 14 = .ok (.iconst 0, 1) := by decide +kernel
theorem d_Law_mark_15 : decode b_Law_mark 15 = .ok (.ireturn, 1) := by decide +kernel
abbrev b_Law_write : ByteArray := method_10_code
abbrev y_Law_write : MethodName := ⟨"ReplacementWriterLaw", "write", "(LReplacementWriter;I[J)I"⟩
theorem d_Law_write_0 : decode b_Law_write 0 = .ok (.aload_n 2, 1) := by decide +kernel
theorem d_Law_write_1 : decode b_Law_write 1 = .ok (.iconst 0, 1) := by decide +kernel
theorem d_Law_write_2 : decode b_Law_write 2 = .ok (.aload_n 0, 1) := by decide +kernel
theorem d_Law_write_3 : decode b_Law_write 3 = .ok (.iload_n 1, 1) := by decide +kernel
theorem d_Law_write_4 : decode b_Law_write 4 = .ok (.invokevirtual 40, 3) := by decide +kernel
theorem d_Law_write_7 : decode b_Law_write 7 = .ok (.i2l, 1) := by decide +kernel
theorem d_Law_write_8 : decode b_Law_write 8 = .ok (.lastore, 1) := by decide +kernel
theorem d_Law_write_9 : decode b_Law_write 9 = .ok (.goto 6, 3) := by decide +kernel
theorem d_Law_write_12 : decode b_Law_write 12 = .ok (.astore_n 3, 1) := by decide +kernel
theorem d_Law_write_13 : decode b_Law_write 13 = .ok (.iconst 1, 1) := by decide +kernel
theorem d_Law_write_14 : decode b_Law_write 14 = .ok (.ireturn, 1) := by decide +kernel
theorem d_Law_write_15 : decode b_Law_write 15 = .ok (.iconst 0, 1) := by decide +kernel
theorem d_Law_write_16 : decode b_Law_write 16 = .ok (.ireturn, 1) := by decide +kernel
abbrev b_Law_result : ByteArray := method_11_code
abbrev y_Law_result : MethodName := ⟨"ReplacementWriterLaw", "result", "(LReplacementWriter;I[J)I"⟩
theorem d_Law_result_0 : decode b_Law_result 0 = .ok (.aload_n 2, 1) := by decide +kernel
theorem d_Law_result_1 : decode b_Law_result 1 = .ok (.iconst 0, 1) := by decide +kernel
theorem d_Law_result_2 : decode b_Law_result 2 = .ok (.aload_n 0, 1) := by decide +kernel
theorem d_Law_result_3 : decode b_Law_result 3 = .ok (.iload_n 1, 1) := by decide +kernel
theorem d_Law_result_4 : decode b_Law_result 4 = .ok (.invokevirtual 43, 3) := by decide +kernel
theorem d_Law_result_7 : decode b_Law_result 7 = .ok (.i2l, 1) := by decide +kernel
theorem d_Law_result_8 : decode b_Law_result 8 = .ok (.lastore, 1) := by decide +kernel
theorem d_Law_result_9 : decode b_Law_result 9 = .ok (.goto 6, 3) := by decide +kernel
theorem d_Law_result_12 : decode b_Law_result 12 = .ok (.astore_n 3, 1) := by decide +kernel
theorem d_Law_result_13 : decode b_Law_result 13 = .ok (.iconst 1, 1) := by decide +kernel
theorem d_Law_result_14 : decode b_Law_result 14 = .ok (.ireturn, 1) := by decide +kernel
theorem d_Law_result_15 : decode b_Law_result 15 = .ok (.iconst 0, 1) := by decide +kernel
theorem d_Law_result_16 : decode b_Law_result 16 = .ok (.ireturn, 1) := by decide +kernel
abbrev b_Law_fault : ByteArray := method_12_code
abbrev y_Law_fault : MethodName := ⟨"ReplacementWriterLaw", "fault", "(LReplacementWriter;I[J)I"⟩
theorem d_Law_fault_0 : decode b_Law_fault 0 = .ok (.aload_n 2, 1) := by decide +kernel
theorem d_Law_fault_1 : decode b_Law_fault 1 = .ok (.iconst 0, 1) := by decide +kernel
theorem d_Law_fault_2 : decode b_Law_fault 2 = .ok (.aload_n 0, 1) := by decide +kernel
theorem d_Law_fault_3 : decode b_Law_fault 3 = .ok (.iload_n 1, 1) := by decide +kernel
theorem d_Law_fault_4 : decode b_Law_fault 4 = .ok (.invokevirtual 48, 3) := by decide +kernel
theorem d_Law_fault_7 : decode b_Law_fault 7 = .ok (.i2l, 1) := by decide +kernel
theorem d_Law_fault_8 : decode b_Law_fault 8 = .ok (.lastore, 1) := by decide +kernel
theorem d_Law_fault_9 : decode b_Law_fault 9 = .ok (.goto 6, 3) := by decide +kernel
theorem d_Law_fault_12 : decode b_Law_fault 12 = .ok (.astore_n 3, 1) := by decide +kernel
theorem d_Law_fault_13 : decode b_Law_fault 13 = .ok (.iconst 1, 1) := by decide +kernel
theorem d_Law_fault_14 : decode b_Law_fault 14 = .ok (.ireturn, 1) := by decide +kernel
theorem d_Law_fault_15 : decode b_Law_fault 15 = .ok (.iconst 0, 1) := by decide +kernel
theorem d_Law_fault_16 : decode b_Law_fault 16 = .ok (.ireturn, 1) := by decide +kernel
abbrev b_Mod_init : ByteArray := prog_13_method_1_code
abbrev y_Mod_init : MethodName := ⟨"ReplacementWriterModel", "<init>", "(I)V"⟩
theorem d_Mod_init_0 : decode b_Mod_init 0 = .ok (.aload_n 0, 1) := by decide +kernel
theorem d_Mod_init_1 : decode b_Mod_init 1 = .ok (.invokespecial 1, 3) := by decide +kernel
theorem d_Mod_init_4 : decode b_Mod_init 4 = .ok (.aload_n 0, 1) := by decide +kernel
theorem d_Mod_init_5 : decode b_Mod_init 5 = .ok (.new 7, 3) := by decide +kernel
theorem d_Mod_init_8 : decode b_Mod_init 8 = .ok (.dup, 1) := by decide +kernel
theorem d_Mod_init_9 : decode b_Mod_init 9 = .ok (.invokespecial 9, 3) := by decide +kernel
theorem d_Mod_init_12 : decode b_Mod_init 12 = .ok (.putfield 10, 3) := by decide +kernel
theorem d_Mod_init_15 : decode b_Mod_init 15 = .ok (.aload_n 0, 1) := by decide +kernel
theorem d_Mod_init_16 : decode b_Mod_init 16 = .ok (.new 16, 3) := by decide +kernel
theorem d_Mod_init_19 : decode b_Mod_init 19 = .ok (.dup, 1) := by decide +kernel
theorem d_Mod_init_20 : decode b_Mod_init 20 = .ok (.aload_n 0, 1) := by decide +kernel
theorem d_Mod_init_21 : decode b_Mod_init 21 = .ok (.getfield 10, 3) := by decide +kernel
theorem d_Mod_init_24 : decode b_Mod_init 24 = .ok (.invokespecial 18, 3) := by decide +kernel
theorem d_Mod_init_27 : decode b_Mod_init 27 = .ok (.putfield 21, 3) := by decide +kernel
theorem d_Mod_init_30 : decode b_Mod_init 30 = .ok (.aload_n 0, 1) := by decide +kernel
theorem d_Mod_init_31 : decode b_Mod_init 31 = .ok (.new 25, 3) := by decide +kernel
theorem d_Mod_init_34 : decode b_Mod_init 34 = .ok (.dup, 1) := by decide +kernel
theorem d_Mod_init_35 : decode b_Mod_init 35 = .ok (.invokespecial 27, 3) := by decide +kernel
theorem d_Mod_init_38 : decode b_Mod_init 38 = .ok (.putfield 28, 3) := by decide +kernel
theorem d_Mod_init_41 : decode b_Mod_init 41 = .ok (.aload_n 0, 1) := by decide +kernel
theorem d_Mod_init_42 : decode b_Mod_init 42 = .ok (.ldc 32, 2) := by decide +kernel
theorem d_Mod_init_44 : decode b_Mod_init 44 = .ok (.newarray .byte, 2) := by decide +kernel
theorem d_Mod_init_46 : decode b_Mod_init 46 = .ok (.putfield 33, 3) := by decide +kernel
theorem d_Mod_init_49 : decode b_Mod_init 49 = .ok (.aload_n 0, 1) := by decide +kernel
theorem d_Mod_init_50 : decode b_Mod_init 50 = .ok (.iconst 0, 1) := by decide +kernel
theorem d_Mod_init_51 : decode b_Mod_init 51 = .ok (.putfield 37, 3) := by decide +kernel
theorem d_Mod_init_54 : decode b_Mod_init 54 = .ok (.aload_n 0, 1) := by decide +kernel
theorem d_Mod_init_55 : decode b_Mod_init 55 = .ok (.iconst 0, 1) := by decide +kernel
theorem d_Mod_init_56 : decode b_Mod_init 56 = .ok (.putfield 41, 3) := by decide +kernel
theorem d_Mod_init_59 : decode b_Mod_init 59 = .ok (.aload_n 0, 1) := by decide +kernel
theorem d_Mod_init_60 : decode b_Mod_init 60 = .ok (.iconst 0, 1) := by decide +kernel
theorem d_Mod_init_61 : decode b_Mod_init 61 = .ok (.putfield 44, 3) := by decide +kernel
theorem d_Mod_init_64 : decode b_Mod_init 64 = .ok (.aload_n 0, 1) := by decide +kernel
theorem d_Mod_init_65 : decode b_Mod_init 65 = .ok (.iconst 0, 1) := by decide +kernel
theorem d_Mod_init_66 : decode b_Mod_init 66 = .ok (.putfield 47, 3) := by decide +kernel
theorem d_Mod_init_69 : decode b_Mod_init 69 = .ok (.aload_n 0, 1) := by decide +kernel
theorem d_Mod_init_70 : decode b_Mod_init 70 = .ok (.ldc 32, 2) := by decide +kernel
theorem d_Mod_init_72 : decode b_Mod_init 72 = .ok (.newarray .int, 2) := by decide +kernel
theorem d_Mod_init_74 : decode b_Mod_init 74 = .ok (.putfield 51, 3) := by decide +kernel
theorem d_Mod_init_77 : decode b_Mod_init 77 = .ok (.aload_n 0, 1) := by decide +kernel
theorem d_Mod_init_78 : decode b_Mod_init 78 = .ok (.ldc 55, 2) := by decide +kernel
theorem d_Mod_init_80 : decode b_Mod_init 80 = .ok (.newarray .int, 2) := by decide +kernel
theorem d_Mod_init_82 : decode b_Mod_init 82 = .ok (.putfield 56, 3) := by decide +kernel
theorem d_Mod_init_85 : decode b_Mod_init 85 = .ok (.aload_n 0, 1) := by decide +kernel
theorem d_Mod_init_86 : decode b_Mod_init 86 = .ok (.iconst 0, 1) := by decide +kernel
theorem d_Mod_init_87 : decode b_Mod_init 87 = .ok (.putfield 59, 3) := by decide +kernel
theorem d_Mod_init_90 : decode b_Mod_init 90 = .ok (.aload_n 0, 1) := by decide +kernel
theorem d_Mod_init_91 : decode b_Mod_init 91 = .ok (.iconst (-1), 1) := by decide +kernel
theorem d_Mod_init_92 : decode b_Mod_init 92 = .ok (.putfield 62, 3) := by decide +kernel
theorem d_Mod_init_95 : decode b_Mod_init 95 = .ok (.aload_n 0, 1) := by decide +kernel
theorem d_Mod_init_96 : decode b_Mod_init 96 = .ok (.getfield 10, 3) := by decide +kernel
theorem d_Mod_init_99 : decode b_Mod_init 99 = .ok (.iload_n 1, 1) := by decide +kernel
theorem d_Mod_init_100 : decode b_Mod_init 100 = .ok (.iconst 1, 1) := by decide +kernel
theorem d_Mod_init_101 : decode b_Mod_init 101 = .ok (.iand, 1) := by decide +kernel
theorem d_Mod_init_102 : decode b_Mod_init 102 = .ok (.ifCond .eq 7, 3) := by decide +kernel
theorem d_Mod_init_105 : decode b_Mod_init 105 = .ok (.iconst 1, 1) := by decide +kernel
theorem d_Mod_init_106 : decode b_Mod_init 106 = .ok (.goto 4, 3) := by decide +kernel
theorem d_Mod_init_109 : decode b_Mod_init 109 = .ok (.iconst 0, 1) := by decide +kernel
theorem d_Mod_init_110 : decode b_Mod_init 110 = .ok (.iload_n 1, 1) := by decide +kernel
theorem d_Mod_init_111 : decode b_Mod_init 111 = .ok (.iconst 2, 1) := by decide +kernel
theorem d_Mod_init_112 : decode b_Mod_init 112 = .ok (.iand, 1) := by decide +kernel
theorem d_Mod_init_113 : decode b_Mod_init 113 = .ok (.ifCond .eq 7, 3) := by decide +kernel
theorem d_Mod_init_116 : decode b_Mod_init 116 = .ok (.iconst 1, 1) := by decide +kernel
theorem d_Mod_init_117 : decode b_Mod_init 117 = .ok (.goto 4, 3) := by decide +kernel
theorem d_Mod_init_120 : decode b_Mod_init 120 = .ok (.iconst 0, 1) := by decide +kernel
theorem d_Mod_init_121 : decode b_Mod_init 121 = .ok (.invokevirtual 65, 3) := by decide +kernel
theorem d_Mod_init_124 : decode b_Mod_init 124 = .ok (.return_, 1) := by decide +kernel
abbrev b_Holder_init : ByteArray := prog_14_method_1_code
abbrev y_Holder_init : MethodName := ⟨"ReplacementWriterModel$Holder", "<init>", "()V"⟩
theorem d_Holder_init_0 : decode b_Holder_init 0 = .ok (.aload_n 0, 1) := by decide +kernel
theorem d_Holder_init_1 : decode b_Holder_init 1 = .ok (.invokespecial 1, 3) := by decide +kernel
theorem d_Holder_init_4 : decode b_Holder_init 4 = .ok (.aload_n 0, 1) := by decide +kernel
theorem d_Holder_init_5 : decode b_Holder_init 5 = .ok (.iconst 0, 1) := by decide +kernel
theorem d_Holder_init_6 : decode b_Holder_init 6 = .ok (.putfield 7, 3) := by decide +kernel
theorem d_Holder_init_9 : decode b_Holder_init 9 = .ok (.aload_n 0, 1) := by decide +kernel
theorem d_Holder_init_10 : decode b_Holder_init 10 = .ok (.bipush 100, 2) := by decide +kernel
theorem d_Holder_init_12 : decode b_Holder_init 12 = .ok (.anewarray 13, 3) := by decide +kernel
theorem d_Holder_init_15 : decode b_Holder_init 15 = .ok (.putfield 15, 3) := by decide +kernel
theorem d_Holder_init_18 : decode b_Holder_init 18 = .ok (.aload_n 0, 1) := by decide +kernel
theorem d_Holder_init_19 : decode b_Holder_init 19 = .ok (.new 19, 3) := by decide +kernel
theorem d_Holder_init_22 : decode b_Holder_init 22 = .ok (.dup, 1) := by decide +kernel
theorem d_Holder_init_23 : decode b_Holder_init 23 = .ok (.invokespecial 21, 3) := by decide +kernel
theorem d_Holder_init_26 : decode b_Holder_init 26 = .ok (.putfield 22, 3) := by decide +kernel
theorem d_Holder_init_29 : decode b_Holder_init 29 = .ok (.aload_n 0, 1) := by decide +kernel
theorem d_Holder_init_30 : decode b_Holder_init 30 = .ok (.new 19, 3) := by decide +kernel
theorem d_Holder_init_33 : decode b_Holder_init 33 = .ok (.dup, 1) := by decide +kernel
theorem d_Holder_init_34 : decode b_Holder_init 34 = .ok (.invokespecial 21, 3) := by decide +kernel
theorem d_Holder_init_37 : decode b_Holder_init 37 = .ok (.putfield 26, 3) := by decide +kernel
theorem d_Holder_init_40 : decode b_Holder_init 40 = .ok (.aload_n 0, 1) := by decide +kernel
theorem d_Holder_init_41 : decode b_Holder_init 41 = .ok (.iconst 0, 1) := by decide +kernel
theorem d_Holder_init_42 : decode b_Holder_init 42 = .ok (.newarray .int, 2) := by decide +kernel
theorem d_Holder_init_44 : decode b_Holder_init 44 = .ok (.putfield 29, 3) := by decide +kernel
theorem d_Holder_init_47 : decode b_Holder_init 47 = .ok (.return_, 1) := by decide +kernel
abbrev b_Mod_thrown : ByteArray := prog_13_method_2_code
abbrev y_Mod_thrown : MethodName := ⟨"ReplacementWriterModel", "thrown", "()I"⟩
theorem d_Mod_thrown_0 : decode b_Mod_thrown 0 = .ok (.aload_n 0, 1) := by decide +kernel
theorem d_Mod_thrown_1 : decode b_Mod_thrown 1 = .ok (.getfield 41, 3) := by decide +kernel
theorem d_Mod_thrown_4 : decode b_Mod_thrown 4 = .ok (.ireturn, 1) := by decide +kernel
abbrev b_Mod_feed : ByteArray := prog_13_method_4_code
abbrev y_Mod_feed : MethodName := ⟨"ReplacementWriterModel", "feed", "(IIIII)I"⟩
theorem d_Mod_feed_0 : decode b_Mod_feed 0 = .ok (.aload_n 0, 1) := by decide +kernel
theorem d_Mod_feed_1 : decode b_Mod_feed 1 = .ok (.iconst 0, 1) := by decide +kernel
theorem d_Mod_feed_2 : decode b_Mod_feed 2 = .ok (.putfield 41, 3) := by decide +kernel
theorem d_Mod_feed_5 : decode b_Mod_feed 5 = .ok (.aload_n 0, 1) := by decide +kernel
theorem d_Mod_feed_6 : decode b_Mod_feed 6 = .ok (.iconst 1, 1) := by decide +kernel
theorem d_Mod_feed_7 : decode b_Mod_feed 7 = .ok (.aload_n 0, 1) := by decide +kernel
theorem d_Mod_feed_8 : decode b_Mod_feed 8 = .ok (.getfield 37, 3) := by decide +kernel
theorem d_Mod_feed_11 : decode b_Mod_feed 11 = .ok (.ldc 69, 2) := by decide +kernel
theorem d_Mod_feed_13 : decode b_Mod_feed 13 = .ok (.if_icmp .le 7, 3) := by decide +kernel
theorem d_Mod_feed_16 : decode b_Mod_feed 16 = .ok (.iconst 1, 1) := by decide +kernel
theorem d_Mod_feed_17 : decode b_Mod_feed 17 = .ok (.goto 4, 3) := by decide +kernel
theorem d_Mod_feed_20 : decode b_Mod_feed 20 = .ok (.iconst 0, 1) := by decide +kernel
theorem d_Mod_feed_21 : decode b_Mod_feed 21 = .ok (.invokevirtual 70, 3) := by decide +kernel
theorem d_Mod_feed_24 : decode b_Mod_feed 24 = .ok (.ifCond .eq 5, 3) := by decide +kernel
theorem d_Mod_feed_27 : decode b_Mod_feed 27 = .ok (.iconst 0, 1) := by decide +kernel
theorem d_Mod_feed_28 : decode b_Mod_feed 28 = .ok (.ireturn, 1) := by decide +kernel
theorem d_Mod_feed_29 : decode b_Mod_feed 29 = .ok (.iconst 5, 1) := by decide +kernel
theorem d_Mod_feed_30 : decode b_Mod_feed 30 = .ok (.newarray .int, 2) := by decide +kernel
theorem d_Mod_feed_32 : decode b_Mod_feed 32 = .ok (.dup, 1) := by decide +kernel
theorem d_Mod_feed_33 : decode b_Mod_feed 33 = .ok (.iconst 0, 1) := by decide +kernel
theorem d_Mod_feed_34 : decode b_Mod_feed 34 = .ok (.iload_n 1, 1) := by decide +kernel
theorem d_Mod_feed_35 : decode b_Mod_feed 35 = .ok (.iastore, 1) := by decide +kernel
theorem d_Mod_feed_36 : decode b_Mod_feed 36 = .ok (.dup, 1) := by decide +kernel
theorem d_Mod_feed_37 : decode b_Mod_feed 37 = .ok (.iconst 1, 1) := by decide +kernel
theorem d_Mod_feed_38 : decode b_Mod_feed 38 = .ok (.iload_n 2, 1) := by decide +kernel
theorem d_Mod_feed_39 : decode b_Mod_feed 39 = .ok (.iastore, 1) := by decide +kernel
theorem d_Mod_feed_40 : decode b_Mod_feed 40 = .ok (.dup, 1) := by decide +kernel
theorem d_Mod_feed_41 : decode b_Mod_feed 41 = .ok (.iconst 2, 1) := by decide +kernel
theorem d_Mod_feed_42 : decode b_Mod_feed 42 = .ok (.iload_n 3, 1) := by decide +kernel
theorem d_Mod_feed_43 : decode b_Mod_feed 43 = .ok (.iastore, 1) := by decide +kernel
theorem d_Mod_feed_44 : decode b_Mod_feed 44 = .ok (.dup, 1) := by decide +kernel
theorem d_Mod_feed_45 : decode b_Mod_feed 45 = .ok (.iconst 3, 1) := by decide +kernel
theorem d_Mod_feed_46 : decode b_Mod_feed 46 = .ok (.iload 4, 2) := by decide +kernel
theorem d_Mod_feed_48 : decode b_Mod_feed 48 = .ok (.iastore, 1) := by decide +kernel
theorem d_Mod_feed_49 : decode b_Mod_feed 49 = .ok (.dup, 1) := by decide +kernel
theorem d_Mod_feed_50 : decode b_Mod_feed 50 = .ok (.iconst 4, 1) := by decide +kernel
theorem d_Mod_feed_51 : decode b_Mod_feed 51 = .ok (.iload 5, 2) := by decide +kernel
theorem d_Mod_feed_53 : decode b_Mod_feed 53 = .ok (.iastore, 1) := by decide +kernel
theorem d_Mod_feed_54 : decode b_Mod_feed 54 = .ok (.astore 6, 2) := by decide +kernel
theorem d_Mod_feed_56 : decode b_Mod_feed 56 = .ok (.iconst 0, 1) := by decide +kernel
theorem d_Mod_feed_57 : decode b_Mod_feed 57 = .ok (.istore 7, 2) := by decide +kernel
theorem d_Mod_feed_59 : decode b_Mod_feed 59 = .ok (.iload 7, 2) := by decide +kernel
theorem d_Mod_feed_61 : decode b_Mod_feed 61 = .ok (.bipush 20, 2) := by decide +kernel
theorem d_Mod_feed_63 : decode b_Mod_feed 63 = .ok (.if_icmp .ge 44, 3) := by decide +kernel
theorem d_Mod_feed_66 : decode b_Mod_feed 66 = .ok (.aload_n 0, 1) := by decide +kernel
theorem d_Mod_feed_67 : decode b_Mod_feed 67 = .ok (.getfield 33, 3) := by decide +kernel
theorem d_Mod_feed_70 : decode b_Mod_feed 70 = .ok (.aload_n 0, 1) := by decide +kernel
theorem d_Mod_feed_71 : decode b_Mod_feed 71 = .ok (.dup, 1) := by decide +kernel
theorem d_Mod_feed_72 : decode b_Mod_feed 72 = .ok (.getfield 37, 3) := by decide +kernel
theorem d_Mod_feed_75 : decode b_Mod_feed 75 = .ok (.dup_x1, 1) := by decide +kernel
theorem d_Mod_feed_76 : decode b_Mod_feed 76 = .ok (.iconst 1, 1) := by decide +kernel
theorem d_Mod_feed_77 : decode b_Mod_feed 77 = .ok (.iadd, 1) := by decide +kernel
theorem d_Mod_feed_78 : decode b_Mod_feed 78 = .ok (.putfield 37, 3) := by decide +kernel
theorem d_Mod_feed_81 : decode b_Mod_feed 81 = .ok (.aload 6, 2) := by decide +kernel
theorem d_Mod_feed_83 : decode b_Mod_feed 83 = .ok (.iload 7, 2) := by decide +kernel
theorem d_Mod_feed_85 : decode b_Mod_feed 85 = .ok (.iconst 4, 1) := by decide +kernel
theorem d_Mod_feed_86 : decode b_Mod_feed 86 = .ok (.idiv, 1) := by decide +kernel
theorem d_Mod_feed_87 : decode b_Mod_feed 87 = .ok (.iaload, 1) := by decide +kernel
theorem d_Mod_feed_88 : decode b_Mod_feed 88 = .ok (.bipush 24, 2) := by decide +kernel
theorem d_Mod_feed_90 : decode b_Mod_feed 90 = .ok (.bipush 8, 2) := by decide +kernel
theorem d_Mod_feed_92 : decode b_Mod_feed 92 = .ok (.iload 7, 2) := by decide +kernel
theorem d_Mod_feed_94 : decode b_Mod_feed 94 = .ok (.iconst 4, 1) := by decide +kernel
theorem d_Mod_feed_95 : decode b_Mod_feed 95 = .ok (.irem, 1) := by decide +kernel
theorem d_Mod_feed_96 : decode b_Mod_feed 96 = .ok (.imul, 1) := by decide +kernel
theorem d_Mod_feed_97 : decode b_Mod_feed 97 = .ok (.isub, 1) := by decide +kernel
theorem d_Mod_feed_98 : decode b_Mod_feed 98 = .ok (.iushr, 1) := by decide +kernel
theorem d_Mod_feed_99 : decode b_Mod_feed 99 = .ok (.i2b, 1) := by decide +kernel
theorem d_Mod_feed_100 : decode b_Mod_feed 100 = .ok (.bastore, 1) := by decide +kernel
theorem d_Mod_feed_101 : decode b_Mod_feed 101 = .ok (.iinc 7 1, 3) := by decide +kernel
theorem d_Mod_feed_104 : decode b_Mod_feed 104 = .ok (.goto (-45), 3) := by decide +kernel
theorem d_Mod_feed_107 : decode b_Mod_feed 107 = .ok (.aload_n 0, 1) := by decide +kernel
theorem d_Mod_feed_108 : decode b_Mod_feed 108 = .ok (.getfield 37, 3) := by decide +kernel
theorem d_Mod_feed_111 : decode b_Mod_feed 111 = .ok (.ireturn, 1) := by decide +kernel
abbrev b_Mod_refuse : ByteArray := prog_13_method_3_code
abbrev y_Mod_refuse : MethodName := ⟨"ReplacementWriterModel", "refuse", "(IZ)Z"⟩
theorem d_Mod_refuse_0 : decode b_Mod_refuse 0 = .ok (.iload_n 2, 1) := by decide +kernel
theorem d_Mod_refuse_1 : decode b_Mod_refuse 1 = .ok (.ifCond .eq 8, 3) := by decide +kernel
theorem d_Mod_refuse_4 : decode b_Mod_refuse 4 = .ok (.aload_n 0, 1) := by decide +kernel
theorem d_Mod_refuse_5 : decode b_Mod_refuse 5 = .ok (.iload_n 1, 1) := by decide +kernel
theorem d_Mod_refuse_6 : decode b_Mod_refuse 6 = .ok (.putfield 41, 3) := by decide +kernel
theorem d_Mod_refuse_9 : decode b_Mod_refuse 9 = .ok (.iload_n 2, 1) := by decide +kernel
theorem d_Mod_refuse_10 : decode b_Mod_refuse 10 = .ok (.ireturn, 1) := by decide +kernel
abbrev b_Mod_end : ByteArray := prog_13_method_5_code
abbrev y_Mod_end : MethodName := ⟨"ReplacementWriterModel", "end", "(I)I"⟩
theorem d_Mod_end_0 : decode b_Mod_end 0 = .ok (.aload_n 0, 1) := by decide +kernel
theorem d_Mod_end_1 : decode b_Mod_end 1 = .ok (.iconst 0, 1) := by decide +kernel
theorem d_Mod_end_2 : decode b_Mod_end 2 = .ok (.putfield 41, 3) := by decide +kernel
theorem d_Mod_end_5 : decode b_Mod_end 5 = .ok (.aload_n 0, 1) := by decide +kernel
theorem d_Mod_end_6 : decode b_Mod_end 6 = .ok (.iconst 1, 1) := by decide +kernel
theorem d_Mod_end_7 : decode b_Mod_end 7 = .ok (.iload_n 1, 1) := by decide +kernel
theorem d_Mod_end_8 : decode b_Mod_end 8 = .ok (.ifCond .lt 11, 3) := by decide +kernel
theorem d_Mod_end_11 : decode b_Mod_end 11 = .ok (.iload_n 1, 1) := by decide +kernel
theorem d_Mod_end_12 : decode b_Mod_end 12 = .ok (.aload_n 0, 1) := by decide +kernel
theorem d_Mod_end_13 : decode b_Mod_end 13 = .ok (.getfield 37, 3) := by decide +kernel
theorem d_Mod_end_16 : decode b_Mod_end 16 = .ok (.if_icmp .le 7, 3) := by decide +kernel
theorem d_Mod_end_19 : decode b_Mod_end 19 = .ok (.iconst 1, 1) := by decide +kernel
theorem d_Mod_end_20 : decode b_Mod_end 20 = .ok (.goto 4, 3) := by decide +kernel
theorem d_Mod_end_23 : decode b_Mod_end 23 = .ok (.iconst 0, 1) := by decide +kernel
theorem d_Mod_end_24 : decode b_Mod_end 24 = .ok (.invokevirtual 70, 3) := by decide +kernel
theorem d_Mod_end_27 : decode b_Mod_end 27 = .ok (.ifCond .eq 5, 3) := by decide +kernel
theorem d_Mod_end_30 : decode b_Mod_end 30 = .ok (.iconst 0, 1) := by decide +kernel
theorem d_Mod_end_31 : decode b_Mod_end 31 = .ok (.ireturn, 1) := by decide +kernel
theorem d_Mod_end_32 : decode b_Mod_end 32 = .ok (.aload_n 0, 1) := by decide +kernel
theorem d_Mod_end_33 : decode b_Mod_end 33 = .ok (.iload_n 1, 1) := by decide +kernel
theorem d_Mod_end_34 : decode b_Mod_end 34 = .ok (.putfield 37, 3) := by decide +kernel
theorem d_Mod_end_37 : decode b_Mod_end 37 = .ok (.iload_n 1, 1) := by decide +kernel
theorem d_Mod_end_38 : decode b_Mod_end 38 = .ok (.ireturn, 1) := by decide +kernel
abbrev b_Mod_groups : ByteArray := prog_13_method_7_code
abbrev y_Mod_groups : MethodName := ⟨"ReplacementWriterModel", "groups", "(I)V"⟩
theorem d_Mod_groups_0 : decode b_Mod_groups 0 = .ok (.aload_n 0, 1) := by decide +kernel
theorem d_Mod_groups_1 : decode b_Mod_groups 1 = .ok (.iconst 0, 1) := by decide +kernel
theorem d_Mod_groups_2 : decode b_Mod_groups 2 = .ok (.putfield 41, 3) := by decide +kernel
theorem d_Mod_groups_5 : decode b_Mod_groups 5 = .ok (.aload_n 0, 1) := by decide +kernel
theorem d_Mod_groups_6 : decode b_Mod_groups 6 = .ok (.iconst 1, 1) := by decide +kernel
theorem d_Mod_groups_7 : decode b_Mod_groups 7 = .ok (.iload_n 1, 1) := by decide +kernel
theorem d_Mod_groups_8 : decode b_Mod_groups 8 = .ok (.ifCond .lt 9, 3) := by decide +kernel
theorem d_Mod_groups_11 : decode b_Mod_groups 11 = .ok (.iload_n 1, 1) := by decide +kernel
theorem d_Mod_groups_12 : decode b_Mod_groups 12 = .ok (.bipush 99, 2) := by decide +kernel
theorem d_Mod_groups_14 : decode b_Mod_groups 14 = .ok (.if_icmp .le 7, 3) := by decide +kernel
theorem d_Mod_groups_17 : decode b_Mod_groups 17 = .ok (.iconst 1, 1) := by decide +kernel
theorem d_Mod_groups_18 : decode b_Mod_groups 18 = .ok (.goto 4, 3) := by decide +kernel
theorem d_Mod_groups_21 : decode b_Mod_groups 21 = .ok (.iconst 0, 1) := by decide +kernel
theorem d_Mod_groups_22 : decode b_Mod_groups 22 = .ok (.invokevirtual 70, 3) := by decide +kernel
theorem d_Mod_groups_25 : decode b_Mod_groups 25 = .ok (.ifCond .eq 4, 3) := by decide +kernel
theorem d_Mod_groups_28 : decode b_Mod_groups 28 = .ok (.return_, 1) := by decide +kernel
theorem d_Mod_groups_29 : decode b_Mod_groups 29 = .ok (.aload_n 0, 1) := by decide +kernel
theorem d_Mod_groups_30 : decode b_Mod_groups 30 = .ok (.getfield 28, 3) := by decide +kernel
theorem d_Mod_groups_33 : decode b_Mod_groups 33 = .ok (.iload_n 1, 1) := by decide +kernel
theorem d_Mod_groups_34 : decode b_Mod_groups 34 = .ok (.putfield 80, 3) := by decide +kernel
theorem d_Mod_groups_37 : decode b_Mod_groups 37 = .ok (.iconst 0, 1) := by decide +kernel
theorem d_Mod_groups_38 : decode b_Mod_groups 38 = .ok (.istore_n 2, 1) := by decide +kernel
theorem d_Mod_groups_39 : decode b_Mod_groups 39 = .ok (.iload_n 2, 1) := by decide +kernel
theorem d_Mod_groups_40 : decode b_Mod_groups 40 = .ok (.bipush 100, 2) := by decide +kernel
theorem d_Mod_groups_42 : decode b_Mod_groups 42 = .ok (.if_icmp .ge 19, 3) := by decide +kernel
theorem d_Mod_groups_45 : decode b_Mod_groups 45 = .ok (.aload_n 0, 1) := by decide +kernel
theorem d_Mod_groups_46 : decode b_Mod_groups 46 = .ok (.getfield 28, 3) := by decide +kernel
theorem d_Mod_groups_49 : decode b_Mod_groups 49 = .ok (.getfield 83, 3) := by decide +kernel
theorem d_Mod_groups_52 : decode b_Mod_groups 52 = .ok (.iload_n 2, 1) := by decide +kernel
theorem d_Mod_groups_53 : decode b_Mod_groups 53 = .ok (.aconst_null, 1) := by decide +kernel
theorem d_Mod_groups_54 : decode b_Mod_groups 54 = .ok (.aastore, 1) := by decide +kernel
theorem d_Mod_groups_55 : decode b_Mod_groups 55 = .ok (.iinc 2 1, 3) := by decide +kernel
theorem d_Mod_groups_58 : decode b_Mod_groups 58 = .ok (.goto (-19), 3) := by decide +kernel
theorem d_Mod_groups_61 : decode b_Mod_groups 61 = .ok (.aload_n 0, 1) := by decide +kernel
theorem d_Mod_groups_62 : decode b_Mod_groups 62 = .ok (.getfield 28, 3) := by decide +kernel
theorem d_Mod_groups_65 : decode b_Mod_groups 65 = .ok (.getfield 87, 3) := by decide +kernel
theorem d_Mod_groups_68 : decode b_Mod_groups 68 = .ok (.invokevirtual 91, 3) := by decide +kernel
theorem d_Mod_groups_71 : decode b_Mod_groups 71 = .ok (.aload_n 0, 1) := by decide +kernel
theorem d_Mod_groups_72 : decode b_Mod_groups 72 = .ok (.getfield 28, 3) := by decide +kernel
theorem d_Mod_groups_75 : decode b_Mod_groups 75 = .ok (.getfield 96, 3) := by decide +kernel
theorem d_Mod_groups_78 : decode b_Mod_groups 78 = .ok (.invokevirtual 91, 3) := by decide +kernel
theorem d_Mod_groups_81 : decode b_Mod_groups 81 = .ok (.aload_n 0, 1) := by decide +kernel
theorem d_Mod_groups_82 : decode b_Mod_groups 82 = .ok (.getfield 28, 3) := by decide +kernel
theorem d_Mod_groups_85 : decode b_Mod_groups 85 = .ok (.iconst 0, 1) := by decide +kernel
theorem d_Mod_groups_86 : decode b_Mod_groups 86 = .ok (.newarray .int, 2) := by decide +kernel
theorem d_Mod_groups_88 : decode b_Mod_groups 88 = .ok (.putfield 99, 3) := by decide +kernel
theorem d_Mod_groups_91 : decode b_Mod_groups 91 = .ok (.return_, 1) := by decide +kernel
abbrev b_Mod_set : ByteArray := prog_13_method_9_code
abbrev y_Mod_set : MethodName := ⟨"ReplacementWriterModel", "set", "(I)I"⟩
theorem d_Mod_set_0 : decode b_Mod_set 0 = .ok (.aload_n 0, 1) := by decide +kernel
theorem d_Mod_set_1 : decode b_Mod_set 1 = .ok (.iconst 0, 1) := by decide +kernel
theorem d_Mod_set_2 : decode b_Mod_set 2 = .ok (.putfield 41, 3) := by decide +kernel
theorem d_Mod_set_5 : decode b_Mod_set 5 = .ok (.aload_n 0, 1) := by decide +kernel
theorem d_Mod_set_6 : decode b_Mod_set 6 = .ok (.iconst 1, 1) := by decide +kernel
theorem d_Mod_set_7 : decode b_Mod_set 7 = .ok (.iload_n 1, 1) := by decide +kernel
theorem d_Mod_set_8 : decode b_Mod_set 8 = .ok (.ifCond .lt 14, 3) := by decide +kernel
theorem d_Mod_set_11 : decode b_Mod_set 11 = .ok (.iload_n 1, 1) := by decide +kernel
theorem d_Mod_set_12 : decode b_Mod_set 12 = .ok (.aload_n 0, 1) := by decide +kernel
theorem d_Mod_set_13 : decode b_Mod_set 13 = .ok (.getfield 28, 3) := by decide +kernel
theorem d_Mod_set_16 : decode b_Mod_set 16 = .ok (.getfield 80, 3) := by decide +kernel
theorem d_Mod_set_19 : decode b_Mod_set 19 = .ok (.if_icmp .le 7, 3) := by decide +kernel
theorem d_Mod_set_22 : decode b_Mod_set 22 = .ok (.iconst 1, 1) := by decide +kernel
theorem d_Mod_set_23 : decode b_Mod_set 23 = .ok (.goto 4, 3) := by decide +kernel
theorem d_Mod_set_26 : decode b_Mod_set 26 = .ok (.iconst 0, 1) := by decide +kernel
theorem d_Mod_set_27 : decode b_Mod_set 27 = .ok (.invokevirtual 70, 3) := by decide +kernel
theorem d_Mod_set_30 : decode b_Mod_set 30 = .ok (.ifCond .ne 23, 3) := by decide +kernel
theorem d_Mod_set_33 : decode b_Mod_set 33 = .ok (.aload_n 0, 1) := by decide +kernel
theorem d_Mod_set_34 : decode b_Mod_set 34 = .ok (.iconst 2, 1) := by decide +kernel
theorem d_Mod_set_35 : decode b_Mod_set 35 = .ok (.aload_n 0, 1) := by decide +kernel
theorem d_Mod_set_36 : decode b_Mod_set 36 = .ok (.invokevirtual 108, 3) := by decide +kernel
theorem d_Mod_set_39 : decode b_Mod_set 39 = .ok (.ifCond .lt 7, 3) := by decide +kernel
theorem d_Mod_set_42 : decode b_Mod_set 42 = .ok (.iconst 1, 1) := by decide +kernel
theorem d_Mod_set_43 : decode b_Mod_set 43 = .ok (.goto 4, 3) := by decide +kernel
theorem d_Mod_set_46 : decode b_Mod_set 46 = .ok (.iconst 0, 1) := by decide +kernel
theorem d_Mod_set_47 : decode b_Mod_set 47 = .ok (.invokevirtual 70, 3) := by decide +kernel
theorem d_Mod_set_50 : decode b_Mod_set 50 = .ok (.ifCond .eq 5, 3) := by decide +kernel
theorem d_Mod_set_53 : decode b_Mod_set 53 = .ok (.iconst 0, 1) := by decide +kernel
theorem d_Mod_set_54 : decode b_Mod_set 54 = .ok (.ireturn, 1) := by decide +kernel
theorem d_Mod_set_55 : decode b_Mod_set 55 = .ok (.aload_n 0, 1) := by decide +kernel
theorem d_Mod_set_56 : decode b_Mod_set 56 = .ok (.getfield 28, 3) := by decide +kernel
theorem d_Mod_set_59 : decode b_Mod_set 59 = .ok (.getfield 83, 3) := by decide +kernel
theorem d_Mod_set_62 : decode b_Mod_set 62 = .ok (.iload_n 1, 1) := by decide +kernel
theorem d_Mod_set_63 : decode b_Mod_set 63 = .ok (.aload_n 0, 1) := by decide +kernel
theorem d_Mod_set_64 : decode b_Mod_set 64 = .ok (.invokevirtual 112, 3) := by decide +kernel
theorem d_Mod_set_67 : decode b_Mod_set 67 = .ok (.aastore, 1) := by decide +kernel
theorem d_Mod_set_68 : decode b_Mod_set 68 = .ok (.aload_n 0, 1) := by decide +kernel
theorem d_Mod_set_69 : decode b_Mod_set 69 = .ok (.getfield 59, 3) := by decide +kernel
theorem d_Mod_set_72 : decode b_Mod_set 72 = .ok (.ireturn, 1) := by decide +kernel
abbrev b_Mod_characters : ByteArray := prog_13_method_6_code
abbrev y_Mod_characters : MethodName := ⟨"ReplacementWriterModel", "characters", "()I"⟩
theorem d_Mod_characters_0 : decode b_Mod_characters 0 = .ok (.aload_n 0, 1) := by decide +kernel
theorem d_Mod_characters_1 : decode b_Mod_characters 1 = .ok (.iconst 0, 1) := by decide +kernel
theorem d_Mod_characters_2 : decode b_Mod_characters 2 = .ok (.putfield 59, 3) := by decide +kernel
theorem d_Mod_characters_5 : decode b_Mod_characters 5 = .ok (.iconst 0, 1) := by decide +kernel
theorem d_Mod_characters_6 : decode b_Mod_characters 6 = .ok (.istore_n 1, 1) := by decide +kernel
theorem d_Mod_characters_7 : decode b_Mod_characters 7 = .ok (.aload_n 0, 1) := by decide +kernel
theorem d_Mod_characters_8 : decode b_Mod_characters 8 = .ok (.getfield 37, 3) := by decide +kernel
theorem d_Mod_characters_11 : decode b_Mod_characters 11 = .ok (.istore_n 2, 1) := by decide +kernel
theorem d_Mod_characters_12 : decode b_Mod_characters 12 = .ok (.aload_n 0, 1) := by decide +kernel
theorem d_Mod_characters_13 : decode b_Mod_characters 13 = .ok (.iconst 0, 1) := by decide +kernel
theorem d_Mod_characters_14 : decode b_Mod_characters 14 = .ok (.putfield 37, 3) := by decide +kernel
theorem d_Mod_characters_17 : decode b_Mod_characters 17 = .ok (.iload_n 1, 1) := by decide +kernel
theorem d_Mod_characters_18 : decode b_Mod_characters 18 = .ok (.iload_n 2, 1) := by decide +kernel
theorem d_Mod_characters_19 : decode b_Mod_characters 19 = .ok (.if_icmp .ge 280, 3) := by decide +kernel
theorem d_Mod_characters_22 : decode b_Mod_characters 22 = .ok (.aload_n 0, 1) := by decide +kernel
theorem d_Mod_characters_23 : decode b_Mod_characters 23 = .ok (.getfield 56, 3) := by decide +kernel
theorem d_Mod_characters_26 : decode b_Mod_characters 26 = .ok (.aload_n 0, 1) := by decide +kernel
theorem d_Mod_characters_27 : decode b_Mod_characters 27 = .ok (.getfield 59, 3) := by decide +kernel
theorem d_Mod_characters_30 : decode b_Mod_characters 30 = .ok (.iload_n 1, 1) := by decide +kernel
theorem d_Mod_characters_31 : decode b_Mod_characters 31 = .ok (.iastore, 1) := by decide +kernel
theorem d_Mod_characters_32 : decode b_Mod_characters 32 = .ok (.aload_n 0, 1) := by decide +kernel
theorem d_Mod_characters_33 : decode b_Mod_characters 33 = .ok (.getfield 33, 3) := by decide +kernel
theorem d_Mod_characters_36 : decode b_Mod_characters 36 = .ok (.iload_n 1, 1) := by decide +kernel
theorem d_Mod_characters_37 : decode b_Mod_characters 37 = .ok (.baload, 1) := by decide +kernel
theorem d_Mod_characters_38 : decode b_Mod_characters 38 = .ok (.sipush 255, 3) := by decide +kernel
theorem d_Mod_characters_41 : decode b_Mod_characters 41 = .ok (.iand, 1) := by decide +kernel
theorem d_Mod_characters_42 : decode b_Mod_characters 42 = .ok (.istore_n 3, 1) := by decide +kernel
theorem d_Mod_characters_43 : decode b_Mod_characters 43 = .ok (.aload_n 0, 1) := by decide +kernel
theorem d_Mod_characters_44 : decode b_Mod_characters 44 = .ok (.getfield 10, 3) := by decide +kernel
theorem d_Mod_characters_47 : decode b_Mod_characters 47 = .ok (.getfield 74, 3) := by decide +kernel
theorem d_Mod_characters_50 : decode b_Mod_characters 50 = .ok (.ifCond .eq 10, 3) := by decide +kernel
theorem d_Mod_characters_53 : decode b_Mod_characters 53 = .ok (.iload_n 3, 1) := by decide +kernel
theorem d_Mod_characters_54 : decode b_Mod_characters 54 = .ok (.sipush 128, 3) := by decide +kernel
theorem d_Mod_characters_57 : decode b_Mod_characters 57 = .ok (.if_icmp .ge 26, 3) := by decide +kernel
theorem d_Mod_characters_60 : decode b_Mod_characters 60 = .ok (.aload_n 0, 1) := by decide +kernel
theorem d_Mod_characters_61 : decode b_Mod_characters 61 = .ok (.getfield 51, 3) := by decide +kernel
theorem d_Mod_characters_64 : decode b_Mod_characters 64 = .ok (.aload_n 0, 1) := by decide +kernel
theorem d_Mod_characters_65 : decode b_Mod_characters 65 = .ok (.dup, 1) := by decide +kernel
theorem d_Mod_characters_66 : decode b_Mod_characters 66 = .ok (.getfield 59, 3) := by decide +kernel
theorem d_Mod_characters_69 : decode b_Mod_characters 69 = .ok (.dup_x1, 1) := by decide +kernel
theorem d_Mod_characters_70 : decode b_Mod_characters 70 = .ok (.iconst 1, 1) := by decide +kernel
theorem d_Mod_characters_71 : decode b_Mod_characters 71 = .ok (.iadd, 1) := by decide +kernel
theorem d_Mod_characters_72 : decode b_Mod_characters 72 = .ok (.putfield 59, 3) := by decide +kernel
theorem d_Mod_characters_75 : decode b_Mod_characters 75 = .ok (.iload_n 3, 1) := by decide +kernel
theorem d_Mod_characters_76 : decode b_Mod_characters 76 = .ok (.iastore, 1) := by decide +kernel
theorem d_Mod_characters_77 : decode b_Mod_characters 77 = .ok (.iinc 1 1, 3) := by decide +kernel
theorem d_Mod_characters_80 : decode b_Mod_characters 80 = .ok (.goto (-63), 3) := by decide +kernel
theorem d_Mod_characters_83 : decode b_Mod_characters 83 = .ok (.iload_n 3, 1) := by decide +kernel
theorem d_Mod_characters_84 : decode b_Mod_characters 84 = .ok (.sipush 194, 3) := by decide +kernel
theorem d_Mod_characters_87 : decode b_Mod_characters 87 = .ok (.if_icmp .lt 14, 3) := by decide +kernel
theorem d_Mod_characters_90 : decode b_Mod_characters 90 = .ok (.iload_n 3, 1) := by decide +kernel
theorem d_Mod_characters_91 : decode b_Mod_characters 91 = .ok (.sipush 223, 3) := by decide +kernel
theorem d_Mod_characters_94 : decode b_Mod_characters 94 = .ok (.if_icmp .gt 7, 3) := by decide +kernel
theorem d_Mod_characters_97 : decode b_Mod_characters 97 = .ok (.iconst 1, 1) := by decide +kernel
theorem d_Mod_characters_98 : decode b_Mod_characters 98 = .ok (.goto 40, 3) := by decide +kernel
theorem d_Mod_characters_101 : decode b_Mod_characters 101 = .ok (.iload_n 3, 1) := by decide +kernel
theorem d_Mod_characters_102 : decode b_Mod_characters 102 = .ok (.sipush 224, 3) := by decide +kernel
theorem d_Mod_characters_105 : decode b_Mod_characters 105 = .ok (.if_icmp .lt 14, 3) := by decide +kernel
theorem d_Mod_characters_108 : decode b_Mod_characters 108 = .ok (.iload_n 3, 1) := by decide +kernel
theorem d_Mod_characters_109 : decode b_Mod_characters 109 = .ok (.sipush 239, 3) := by decide +kernel
theorem d_Mod_characters_112 : decode b_Mod_characters 112 = .ok (.if_icmp .gt 7, 3) := by decide +kernel
theorem d_Mod_characters_115 : decode b_Mod_characters 115 = .ok (.iconst 2, 1) := by decide +kernel
theorem d_Mod_characters_116 : decode b_Mod_characters 116 = .ok (.goto 22, 3) := by decide +kernel
theorem d_Mod_characters_119 : decode b_Mod_characters 119 = .ok (.iload_n 3, 1) := by decide +kernel
theorem d_Mod_characters_120 : decode b_Mod_characters 120 = .ok (.sipush 240, 3) := by decide +kernel
theorem d_Mod_characters_123 : decode b_Mod_characters 123 = .ok (.if_icmp .lt 14, 3) := by decide +kernel
theorem d_Mod_characters_126 : decode b_Mod_characters 126 = .ok (.iload_n 3, 1) := by decide +kernel
theorem d_Mod_characters_127 : decode b_Mod_characters 127 = .ok (.sipush 244, 3) := by decide +kernel
theorem d_Mod_characters_130 : decode b_Mod_characters 130 = .ok (.if_icmp .gt 7, 3) := by decide +kernel
theorem d_Mod_characters_133 : decode b_Mod_characters 133 = .ok (.iconst 3, 1) := by decide +kernel
theorem d_Mod_characters_134 : decode b_Mod_characters 134 = .ok (.goto 4, 3) := by decide +kernel
theorem d_Mod_characters_137 : decode b_Mod_characters 137 = .ok (.iconst 0, 1) := by decide +kernel
theorem d_Mod_characters_138 : decode b_Mod_characters 138 = .ok (.istore 4, 2) := by decide +kernel
theorem d_Mod_characters_140 : decode b_Mod_characters 140 = .ok (.iload 4, 2) := by decide +kernel
theorem d_Mod_characters_142 : decode b_Mod_characters 142 = .ok (.ifCond .eq 11, 3) := by decide +kernel
theorem d_Mod_characters_145 : decode b_Mod_characters 145 = .ok (.iload_n 1, 1) := by decide +kernel
theorem d_Mod_characters_146 : decode b_Mod_characters 146 = .ok (.iload 4, 2) := by decide +kernel
theorem d_Mod_characters_148 : decode b_Mod_characters 148 = .ok (.iadd, 1) := by decide +kernel
theorem d_Mod_characters_149 : decode b_Mod_characters 149 = .ok (.iload_n 2, 1) := by decide +kernel
theorem d_Mod_characters_150 : decode b_Mod_characters 150 = .ok (.if_icmp .lt 5, 3) := by decide +kernel
theorem d_Mod_characters_153 : decode b_Mod_characters 153 = .ok (.iload_n 1, 1) := by decide +kernel
theorem d_Mod_characters_154 : decode b_Mod_characters 154 = .ok (.ireturn, 1) := by decide +kernel
theorem d_Mod_characters_155 : decode b_Mod_characters 155 = .ok (.iload_n 3, 1) := by decide +kernel
theorem d_Mod_characters_156 : decode b_Mod_characters 156 = .ok (.bipush 63, 2) := by decide +kernel
theorem d_Mod_characters_158 : decode b_Mod_characters 158 = .ok (.iload 4, 2) := by decide +kernel
theorem d_Mod_characters_160 : decode b_Mod_characters 160 = .ok (.ishr, 1) := by decide +kernel
theorem d_Mod_characters_161 : decode b_Mod_characters 161 = .ok (.iand, 1) := by decide +kernel
theorem d_Mod_characters_162 : decode b_Mod_characters 162 = .ok (.istore 5, 2) := by decide +kernel
theorem d_Mod_characters_164 : decode b_Mod_characters 164 = .ok (.iconst 1, 1) := by decide +kernel
theorem d_Mod_characters_165 : decode b_Mod_characters 165 = .ok (.istore 6, 2) := by decide +kernel
theorem d_Mod_characters_167 : decode b_Mod_characters 167 = .ok (.iload 6, 2) := by decide +kernel
theorem d_Mod_characters_169 : decode b_Mod_characters 169 = .ok (.iload 4, 2) := by decide +kernel
theorem d_Mod_characters_171 : decode b_Mod_characters 171 = .ok (.if_icmp .gt 50, 3) := by decide +kernel
theorem d_Mod_characters_174 : decode b_Mod_characters 174 = .ok (.aload_n 0, 1) := by decide +kernel
theorem d_Mod_characters_175 : decode b_Mod_characters 175 = .ok (.getfield 33, 3) := by decide +kernel
theorem d_Mod_characters_178 : decode b_Mod_characters 178 = .ok (.iload_n 1, 1) := by decide +kernel
theorem d_Mod_characters_179 : decode b_Mod_characters 179 = .ok (.iload 6, 2) := by decide +kernel
theorem d_Mod_characters_181 : decode b_Mod_characters 181 = .ok (.iadd, 1) := by decide +kernel
theorem d_Mod_characters_182 : decode b_Mod_characters 182 = .ok (.baload, 1) := by decide +kernel
theorem d_Mod_characters_183 : decode b_Mod_characters 183 = .ok (.sipush 192, 3) := by decide +kernel
theorem d_Mod_characters_186 : decode b_Mod_characters 186 = .ok (.iand, 1) := by decide +kernel
theorem d_Mod_characters_187 : decode b_Mod_characters 187 = .ok (.sipush 128, 3) := by decide +kernel
theorem d_Mod_characters_190 : decode b_Mod_characters 190 = .ok (.if_icmp .eq 5, 3) := by decide +kernel
theorem d_Mod_characters_193 : decode b_Mod_characters 193 = .ok (.iload_n 1, 1) := by decide +kernel
theorem d_Mod_characters_194 : decode b_Mod_characters 194 = .ok (.ireturn, 1) := by decide +kernel
theorem d_Mod_characters_195 : decode b_Mod_characters 195 = .ok (.iload 5, 2) := by decide +kernel
theorem d_Mod_characters_197 : decode b_Mod_characters 197 = .ok (.bipush 6, 2) := by decide +kernel
theorem d_Mod_characters_199 : decode b_Mod_characters 199 = .ok (.ishl, 1) := by decide +kernel
theorem d_Mod_characters_200 : decode b_Mod_characters 200 = .ok (.aload_n 0, 1) := by decide +kernel
theorem d_Mod_characters_201 : decode b_Mod_characters 201 = .ok (.getfield 33, 3) := by decide +kernel
theorem d_Mod_characters_204 : decode b_Mod_characters 204 = .ok (.iload_n 1, 1) := by decide +kernel
theorem d_Mod_characters_205 : decode b_Mod_characters 205 = .ok (.iload 6, 2) := by decide +kernel
theorem d_Mod_characters_207 : decode b_Mod_characters 207 = .ok (.iadd, 1) := by decide +kernel
theorem d_Mod_characters_208 : decode b_Mod_characters 208 = .ok (.baload, 1) := by decide +kernel
theorem d_Mod_characters_209 : decode b_Mod_characters 209 = .ok (.bipush 63, 2) := by decide +kernel
theorem d_Mod_characters_211 : decode b_Mod_characters 211 = .ok (.iand, 1) := by decide +kernel
theorem d_Mod_characters_212 : decode b_Mod_characters 212 = .ok (.ior, 1) := by decide +kernel
theorem d_Mod_characters_213 : decode b_Mod_characters 213 = .ok (.istore 5, 2) := by decide +kernel
theorem d_Mod_characters_215 : decode b_Mod_characters 215 = .ok (.iinc 6 1, 3) := by decide +kernel
theorem d_Mod_characters_218 : decode b_Mod_characters 218 = .ok (.goto (-51), 3) := by decide +kernel
theorem d_Mod_characters_221 : decode b_Mod_characters 221 = .ok (.iload 4, 2) := by decide +kernel
theorem d_Mod_characters_223 : decode b_Mod_characters 223 = .ok (.iconst 2, 1) := by decide +kernel
theorem d_Mod_characters_224 : decode b_Mod_characters 224 = .ok (.if_icmp .ne 11, 3) := by decide +kernel
theorem d_Mod_characters_227 : decode b_Mod_characters 227 = .ok (.iload 5, 2) := by decide +kernel
theorem d_Mod_characters_229 : decode b_Mod_characters 229 = .ok (.sipush 2048, 3) := by decide +kernel
theorem d_Mod_characters_232 : decode b_Mod_characters 232 = .ok (.if_icmp .lt 37, 3) := by decide +kernel
theorem d_Mod_characters_235 : decode b_Mod_characters 235 = .ok (.iload 4, 2) := by decide +kernel
theorem d_Mod_characters_237 : decode b_Mod_characters 237 = .ok (.iconst 3, 1) := by decide +kernel
theorem d_Mod_characters_238 : decode b_Mod_characters 238 = .ok (.if_icmp .ne 10, 3) := by decide +kernel
theorem d_Mod_characters_241 : decode b_Mod_characters 241 = .ok (.iload 5, 2) := by decide +kernel
theorem d_Mod_characters_243 : decode b_Mod_characters 243 = .ok (.ldc 32, 2) := by decide +kernel
theorem d_Mod_characters_245 : decode b_Mod_characters 245 = .ok (.if_icmp .lt 24, 3) := by decide +kernel
theorem d_Mod_characters_248 : decode b_Mod_characters 248 = .ok (.iload 5, 2) := by decide +kernel
theorem d_Mod_characters_250 : decode b_Mod_characters 250 = .ok (.ldc 77, 2) := by decide +kernel
theorem d_Mod_characters_252 : decode b_Mod_characters 252 = .ok (.if_icmp .gt 17, 3) := by decide +kernel
theorem d_Mod_characters_255 : decode b_Mod_characters 255 = .ok (.iload 5, 2) := by decide +kernel
theorem d_Mod_characters_257 : decode b_Mod_characters 257 = .ok (.ldc 78, 2) := by decide +kernel
theorem d_Mod_characters_259 : decode b_Mod_characters 259 = .ok (.if_icmp .lt 12, 3) := by decide +kernel
theorem d_Mod_characters_262 : decode b_Mod_characters 262 = .ok (.iload 5, 2) := by decide +kernel
theorem d_Mod_characters_264 : decode b_Mod_characters 264 = .ok (.ldc 79, 2) := by decide +kernel
theorem d_Mod_characters_266 : decode b_Mod_characters 266 = .ok (.if_icmp .gt 5, 3) := by decide +kernel
theorem d_Mod_characters_269 : decode b_Mod_characters 269 = .ok (.iload_n 1, 1) := by decide +kernel
theorem d_Mod_characters_270 : decode b_Mod_characters 270 = .ok (.ireturn, 1) := by decide +kernel
theorem d_Mod_characters_271 : decode b_Mod_characters 271 = .ok (.aload_n 0, 1) := by decide +kernel
theorem d_Mod_characters_272 : decode b_Mod_characters 272 = .ok (.getfield 51, 3) := by decide +kernel
theorem d_Mod_characters_275 : decode b_Mod_characters 275 = .ok (.aload_n 0, 1) := by decide +kernel
theorem d_Mod_characters_276 : decode b_Mod_characters 276 = .ok (.dup, 1) := by decide +kernel
theorem d_Mod_characters_277 : decode b_Mod_characters 277 = .ok (.getfield 59, 3) := by decide +kernel
theorem d_Mod_characters_280 : decode b_Mod_characters 280 = .ok (.dup_x1, 1) := by decide +kernel
theorem d_Mod_characters_281 : decode b_Mod_characters 281 = .ok (.iconst 1, 1) := by decide +kernel
theorem d_Mod_characters_282 : decode b_Mod_characters 282 = .ok (.iadd, 1) := by decide +kernel
theorem d_Mod_characters_283 : decode b_Mod_characters 283 = .ok (.putfield 59, 3) := by decide +kernel
theorem d_Mod_characters_286 : decode b_Mod_characters 286 = .ok (.iload 5, 2) := by decide +kernel
theorem d_Mod_characters_288 : decode b_Mod_characters 288 = .ok (.iastore, 1) := by decide +kernel
theorem d_Mod_characters_289 : decode b_Mod_characters 289 = .ok (.iload_n 1, 1) := by decide +kernel
theorem d_Mod_characters_290 : decode b_Mod_characters 290 = .ok (.iload 4, 2) := by decide +kernel
theorem d_Mod_characters_292 : decode b_Mod_characters 292 = .ok (.iconst 1, 1) := by decide +kernel
theorem d_Mod_characters_293 : decode b_Mod_characters 293 = .ok (.iadd, 1) := by decide +kernel
theorem d_Mod_characters_294 : decode b_Mod_characters 294 = .ok (.iadd, 1) := by decide +kernel
theorem d_Mod_characters_295 : decode b_Mod_characters 295 = .ok (.istore_n 1, 1) := by decide +kernel
theorem d_Mod_characters_296 : decode b_Mod_characters 296 = .ok (.goto (-279), 3) := by decide +kernel
theorem d_Mod_characters_299 : decode b_Mod_characters 299 = .ok (.iconst (-1), 1) := by decide +kernel
theorem d_Mod_characters_300 : decode b_Mod_characters 300 = .ok (.ireturn, 1) := by decide +kernel
abbrev b_Mod_taken : ByteArray := prog_13_method_8_code
abbrev y_Mod_taken : MethodName := ⟨"ReplacementWriterModel", "taken", "()[I"⟩
theorem d_Mod_taken_0 : decode b_Mod_taken 0 = .ok (.aload_n 0, 1) := by decide +kernel
theorem d_Mod_taken_1 : decode b_Mod_taken 1 = .ok (.getfield 59, 3) := by decide +kernel
theorem d_Mod_taken_4 : decode b_Mod_taken 4 = .ok (.newarray .int, 2) := by decide +kernel
theorem d_Mod_taken_6 : decode b_Mod_taken 6 = .ok (.astore_n 1, 1) := by decide +kernel
theorem d_Mod_taken_7 : decode b_Mod_taken 7 = .ok (.aload_n 0, 1) := by decide +kernel
theorem d_Mod_taken_8 : decode b_Mod_taken 8 = .ok (.getfield 51, 3) := by decide +kernel
theorem d_Mod_taken_11 : decode b_Mod_taken 11 = .ok (.iconst 0, 1) := by decide +kernel
theorem d_Mod_taken_12 : decode b_Mod_taken 12 = .ok (.aload_n 1, 1) := by decide +kernel
theorem d_Mod_taken_13 : decode b_Mod_taken 13 = .ok (.iconst 0, 1) := by decide +kernel
theorem d_Mod_taken_14 : decode b_Mod_taken 14 = .ok (.aload_n 0, 1) := by decide +kernel
theorem d_Mod_taken_15 : decode b_Mod_taken 15 = .ok (.getfield 59, 3) := by decide +kernel
theorem d_Mod_taken_18 : decode b_Mod_taken 18 = .ok (.invokestatic 102, 3) := by decide +kernel
theorem d_Mod_taken_21 : decode b_Mod_taken 21 = .ok (.aload_n 1, 1) := by decide +kernel
theorem d_Mod_taken_22 : decode b_Mod_taken 22 = .ok (.areturn, 1) := by decide +kernel
abbrev b_Mod_unset : ByteArray := prog_13_method_10_code
abbrev y_Mod_unset : MethodName := ⟨"ReplacementWriterModel", "unset", "(I)V"⟩
theorem d_Mod_unset_0 : decode b_Mod_unset 0 = .ok (.aload_n 0, 1) := by decide +kernel
theorem d_Mod_unset_1 : decode b_Mod_unset 1 = .ok (.iconst 0, 1) := by decide +kernel
theorem d_Mod_unset_2 : decode b_Mod_unset 2 = .ok (.putfield 41, 3) := by decide +kernel
theorem d_Mod_unset_5 : decode b_Mod_unset 5 = .ok (.aload_n 0, 1) := by decide +kernel
theorem d_Mod_unset_6 : decode b_Mod_unset 6 = .ok (.iconst 1, 1) := by decide +kernel
theorem d_Mod_unset_7 : decode b_Mod_unset 7 = .ok (.iload_n 1, 1) := by decide +kernel
theorem d_Mod_unset_8 : decode b_Mod_unset 8 = .ok (.ifCond .lt 14, 3) := by decide +kernel
theorem d_Mod_unset_11 : decode b_Mod_unset 11 = .ok (.iload_n 1, 1) := by decide +kernel
theorem d_Mod_unset_12 : decode b_Mod_unset 12 = .ok (.aload_n 0, 1) := by decide +kernel
theorem d_Mod_unset_13 : decode b_Mod_unset 13 = .ok (.getfield 28, 3) := by decide +kernel
theorem d_Mod_unset_16 : decode b_Mod_unset 16 = .ok (.getfield 80, 3) := by decide +kernel
theorem d_Mod_unset_19 : decode b_Mod_unset 19 = .ok (.if_icmp .le 7, 3) := by decide +kernel
theorem d_Mod_unset_22 : decode b_Mod_unset 22 = .ok (.iconst 1, 1) := by decide +kernel
theorem d_Mod_unset_23 : decode b_Mod_unset 23 = .ok (.goto 4, 3) := by decide +kernel
theorem d_Mod_unset_26 : decode b_Mod_unset 26 = .ok (.iconst 0, 1) := by decide +kernel
theorem d_Mod_unset_27 : decode b_Mod_unset 27 = .ok (.invokevirtual 70, 3) := by decide +kernel
theorem d_Mod_unset_30 : decode b_Mod_unset 30 = .ok (.ifCond .eq 4, 3) := by decide +kernel
theorem d_Mod_unset_33 : decode b_Mod_unset 33 = .ok (.return_, 1) := by decide +kernel
theorem d_Mod_unset_34 : decode b_Mod_unset 34 = .ok (.aload_n 0, 1) := by decide +kernel
theorem d_Mod_unset_35 : decode b_Mod_unset 35 = .ok (.getfield 28, 3) := by decide +kernel
theorem d_Mod_unset_38 : decode b_Mod_unset 38 = .ok (.getfield 83, 3) := by decide +kernel
theorem d_Mod_unset_41 : decode b_Mod_unset 41 = .ok (.iload_n 1, 1) := by decide +kernel
theorem d_Mod_unset_42 : decode b_Mod_unset 42 = .ok (.aconst_null, 1) := by decide +kernel
theorem d_Mod_unset_43 : decode b_Mod_unset 43 = .ok (.aastore, 1) := by decide +kernel
theorem d_Mod_unset_44 : decode b_Mod_unset 44 = .ok (.return_, 1) := by decide +kernel
abbrev b_Mod_name : ByteArray := prog_13_method_11_code
abbrev y_Mod_name : MethodName := ⟨"ReplacementWriterModel", "name", "(I)I"⟩
theorem d_Mod_name_0 : decode b_Mod_name 0 = .ok (.aload_n 0, 1) := by decide +kernel
theorem d_Mod_name_1 : decode b_Mod_name 1 = .ok (.iconst 0, 1) := by decide +kernel
theorem d_Mod_name_2 : decode b_Mod_name 2 = .ok (.putfield 41, 3) := by decide +kernel
theorem d_Mod_name_5 : decode b_Mod_name 5 = .ok (.aload_n 0, 1) := by decide +kernel
theorem d_Mod_name_6 : decode b_Mod_name 6 = .ok (.iconst 1, 1) := by decide +kernel
theorem d_Mod_name_7 : decode b_Mod_name 7 = .ok (.iload_n 1, 1) := by decide +kernel
theorem d_Mod_name_8 : decode b_Mod_name 8 = .ok (.iconst 1, 1) := by decide +kernel
theorem d_Mod_name_9 : decode b_Mod_name 9 = .ok (.if_icmp .lt 14, 3) := by decide +kernel
theorem d_Mod_name_12 : decode b_Mod_name 12 = .ok (.iload_n 1, 1) := by decide +kernel
theorem d_Mod_name_13 : decode b_Mod_name 13 = .ok (.aload_n 0, 1) := by decide +kernel
theorem d_Mod_name_14 : decode b_Mod_name 14 = .ok (.getfield 28, 3) := by decide +kernel
theorem d_Mod_name_17 : decode b_Mod_name 17 = .ok (.getfield 80, 3) := by decide +kernel
theorem d_Mod_name_20 : decode b_Mod_name 20 = .ok (.if_icmp .le 7, 3) := by decide +kernel
theorem d_Mod_name_23 : decode b_Mod_name 23 = .ok (.iconst 1, 1) := by decide +kernel
theorem d_Mod_name_24 : decode b_Mod_name 24 = .ok (.goto 4, 3) := by decide +kernel
theorem d_Mod_name_27 : decode b_Mod_name 27 = .ok (.iconst 0, 1) := by decide +kernel
theorem d_Mod_name_28 : decode b_Mod_name 28 = .ok (.invokevirtual 70, 3) := by decide +kernel
theorem d_Mod_name_31 : decode b_Mod_name 31 = .ok (.ifCond .eq 5, 3) := by decide +kernel
theorem d_Mod_name_34 : decode b_Mod_name 34 = .ok (.iconst 0, 1) := by decide +kernel
theorem d_Mod_name_35 : decode b_Mod_name 35 = .ok (.ireturn, 1) := by decide +kernel
theorem d_Mod_name_36 : decode b_Mod_name 36 = .ok (.aload_n 0, 1) := by decide +kernel
theorem d_Mod_name_37 : decode b_Mod_name 37 = .ok (.invokevirtual 108, 3) := by decide +kernel
theorem d_Mod_name_40 : decode b_Mod_name 40 = .ok (.ifCond .ge 32, 3) := by decide +kernel
theorem d_Mod_name_43 : decode b_Mod_name 43 = .ok (.aload_n 0, 1) := by decide +kernel
theorem d_Mod_name_44 : decode b_Mod_name 44 = .ok (.getfield 59, 3) := by decide +kernel
theorem d_Mod_name_47 : decode b_Mod_name 47 = .ok (.iconst 1, 1) := by decide +kernel
theorem d_Mod_name_48 : decode b_Mod_name 48 = .ok (.if_icmp .lt 24, 3) := by decide +kernel
theorem d_Mod_name_51 : decode b_Mod_name 51 = .ok (.aload_n 0, 1) := by decide +kernel
theorem d_Mod_name_52 : decode b_Mod_name 52 = .ok (.getfield 59, 3) := by decide +kernel
theorem d_Mod_name_55 : decode b_Mod_name 55 = .ok (.bipush 32, 2) := by decide +kernel
theorem d_Mod_name_57 : decode b_Mod_name 57 = .ok (.if_icmp .gt 15, 3) := by decide +kernel
theorem d_Mod_name_60 : decode b_Mod_name 60 = .ok (.aload_n 0, 1) := by decide +kernel
theorem d_Mod_name_61 : decode b_Mod_name 61 = .ok (.getfield 51, 3) := by decide +kernel
theorem d_Mod_name_64 : decode b_Mod_name 64 = .ok (.iconst 0, 1) := by decide +kernel
theorem d_Mod_name_65 : decode b_Mod_name 65 = .ok (.iaload, 1) := by decide +kernel
theorem d_Mod_name_66 : decode b_Mod_name 66 = .ok (.invokestatic 116, 3) := by decide +kernel
theorem d_Mod_name_69 : decode b_Mod_name 69 = .ok (.ifCond .eq 7, 3) := by decide +kernel
theorem d_Mod_name_72 : decode b_Mod_name 72 = .ok (.iconst 1, 1) := by decide +kernel
theorem d_Mod_name_73 : decode b_Mod_name 73 = .ok (.goto 4, 3) := by decide +kernel
theorem d_Mod_name_76 : decode b_Mod_name 76 = .ok (.iconst 0, 1) := by decide +kernel
theorem d_Mod_name_77 : decode b_Mod_name 77 = .ok (.istore_n 2, 1) := by decide +kernel
theorem d_Mod_name_78 : decode b_Mod_name 78 = .ok (.iconst 0, 1) := by decide +kernel
theorem d_Mod_name_79 : decode b_Mod_name 79 = .ok (.istore_n 3, 1) := by decide +kernel
theorem d_Mod_name_80 : decode b_Mod_name 80 = .ok (.iload_n 2, 1) := by decide +kernel
theorem d_Mod_name_81 : decode b_Mod_name 81 = .ok (.ifCond .ne 35, 3) := by decide +kernel
theorem d_Mod_name_84 : decode b_Mod_name 84 = .ok (.iload_n 3, 1) := by decide +kernel
theorem d_Mod_name_85 : decode b_Mod_name 85 = .ok (.aload_n 0, 1) := by decide +kernel
theorem d_Mod_name_86 : decode b_Mod_name 86 = .ok (.getfield 59, 3) := by decide +kernel
theorem d_Mod_name_89 : decode b_Mod_name 89 = .ok (.if_icmp .ge 27, 3) := by decide +kernel
theorem d_Mod_name_92 : decode b_Mod_name 92 = .ok (.aload_n 0, 1) := by decide +kernel
theorem d_Mod_name_93 : decode b_Mod_name 93 = .ok (.getfield 51, 3) := by decide +kernel
theorem d_Mod_name_96 : decode b_Mod_name 96 = .ok (.iload_n 3, 1) := by decide +kernel
theorem d_Mod_name_97 : decode b_Mod_name 97 = .ok (.iaload, 1) := by decide +kernel
theorem d_Mod_name_98 : decode b_Mod_name 98 = .ok (.invokestatic 120, 3) := by decide +kernel
theorem d_Mod_name_101 : decode b_Mod_name 101 = .ok (.ifCond .ne 7, 3) := by decide +kernel
theorem d_Mod_name_104 : decode b_Mod_name 104 = .ok (.iconst 1, 1) := by decide +kernel
theorem d_Mod_name_105 : decode b_Mod_name 105 = .ok (.goto 4, 3) := by decide +kernel
theorem d_Mod_name_108 : decode b_Mod_name 108 = .ok (.iconst 0, 1) := by decide +kernel
theorem d_Mod_name_109 : decode b_Mod_name 109 = .ok (.istore_n 2, 1) := by decide +kernel
theorem d_Mod_name_110 : decode b_Mod_name 110 = .ok (.iinc 3 1, 3) := by decide +kernel
theorem d_Mod_name_113 : decode b_Mod_name 113 = .ok (.goto (-33), 3) := by decide +kernel
theorem d_Mod_name_116 : decode b_Mod_name 116 = .ok (.aload_n 0, 1) := by decide +kernel
theorem d_Mod_name_117 : decode b_Mod_name 117 = .ok (.iconst 2, 1) := by decide +kernel
theorem d_Mod_name_118 : decode b_Mod_name 118 = .ok (.iload_n 2, 1) := by decide +kernel
theorem d_Mod_name_119 : decode b_Mod_name 119 = .ok (.invokevirtual 70, 3) := by decide +kernel
theorem d_Mod_name_122 : decode b_Mod_name 122 = .ok (.ifCond .eq 5, 3) := by decide +kernel
theorem d_Mod_name_125 : decode b_Mod_name 125 = .ok (.iconst 0, 1) := by decide +kernel
theorem d_Mod_name_126 : decode b_Mod_name 126 = .ok (.ireturn, 1) := by decide +kernel
theorem d_Mod_name_127 : decode b_Mod_name 127 = .ok (.aload_n 0, 1) := by decide +kernel
theorem d_Mod_name_128 : decode b_Mod_name 128 = .ok (.getfield 28, 3) := by decide +kernel
theorem d_Mod_name_131 : decode b_Mod_name 131 = .ok (.getfield 87, 3) := by decide +kernel
theorem d_Mod_name_134 : decode b_Mod_name 134 = .ok (.aload_n 0, 1) := by decide +kernel
theorem d_Mod_name_135 : decode b_Mod_name 135 = .ok (.invokevirtual 112, 3) := by decide +kernel
theorem d_Mod_name_138 : decode b_Mod_name 138 = .ok (.invokevirtual 123, 3) := by decide +kernel
theorem d_Mod_name_141 : decode b_Mod_name 141 = .ok (.pop, 1) := by decide +kernel
theorem d_Mod_name_142 : decode b_Mod_name 142 = .ok (.aload_n 0, 1) := by decide +kernel
theorem d_Mod_name_143 : decode b_Mod_name 143 = .ok (.getfield 28, 3) := by decide +kernel
theorem d_Mod_name_146 : decode b_Mod_name 146 = .ok (.getfield 96, 3) := by decide +kernel
theorem d_Mod_name_149 : decode b_Mod_name 149 = .ok (.iload_n 1, 1) := by decide +kernel
theorem d_Mod_name_150 : decode b_Mod_name 150 = .ok (.invokestatic 127, 3) := by decide +kernel
theorem d_Mod_name_153 : decode b_Mod_name 153 = .ok (.invokevirtual 123, 3) := by decide +kernel
theorem d_Mod_name_156 : decode b_Mod_name 156 = .ok (.pop, 1) := by decide +kernel
theorem d_Mod_name_157 : decode b_Mod_name 157 = .ok (.aload_n 0, 1) := by decide +kernel
theorem d_Mod_name_158 : decode b_Mod_name 158 = .ok (.getfield 28, 3) := by decide +kernel
theorem d_Mod_name_161 : decode b_Mod_name 161 = .ok (.getfield 87, 3) := by decide +kernel
theorem d_Mod_name_164 : decode b_Mod_name 164 = .ok (.invokevirtual 133, 3) := by decide +kernel
theorem d_Mod_name_167 : decode b_Mod_name 167 = .ok (.ireturn, 1) := by decide +kernel
abbrev b_Mod_mark : ByteArray := prog_13_method_12_code
abbrev y_Mod_mark : MethodName := ⟨"ReplacementWriterModel", "mark", "()I"⟩
theorem d_Mod_mark_0 : decode b_Mod_mark 0 = .ok (.aload_n 0, 1) := by decide +kernel
theorem d_Mod_mark_1 : decode b_Mod_mark 1 = .ok (.iconst 0, 1) := by decide +kernel
theorem d_Mod_mark_2 : decode b_Mod_mark 2 = .ok (.putfield 41, 3) := by decide +kernel
theorem d_Mod_mark_5 : decode b_Mod_mark 5 = .ok (.aload_n 0, 1) := by decide +kernel
theorem d_Mod_mark_6 : decode b_Mod_mark 6 = .ok (.iconst 1, 1) := by decide +kernel
theorem d_Mod_mark_7 : decode b_Mod_mark 7 = .ok (.aload_n 0, 1) := by decide +kernel
theorem d_Mod_mark_8 : decode b_Mod_mark 8 = .ok (.invokevirtual 108, 3) := by decide +kernel
theorem d_Mod_mark_11 : decode b_Mod_mark 11 = .ok (.ifCond .lt 7, 3) := by decide +kernel
theorem d_Mod_mark_14 : decode b_Mod_mark 14 = .ok (.iconst 1, 1) := by decide +kernel
theorem d_Mod_mark_15 : decode b_Mod_mark 15 = .ok (.goto 4, 3) := by decide +kernel
theorem d_Mod_mark_18 : decode b_Mod_mark 18 = .ok (.iconst 0, 1) := by decide +kernel
theorem d_Mod_mark_19 : decode b_Mod_mark 19 = .ok (.invokevirtual 70, 3) := by decide +kernel
theorem d_Mod_mark_22 : decode b_Mod_mark 22 = .ok (.ifCond .eq 5, 3) := by decide +kernel
theorem d_Mod_mark_25 : decode b_Mod_mark 25 = .ok (.iconst 0, 1) := by decide +kernel
theorem d_Mod_mark_26 : decode b_Mod_mark 26 = .ok (.ireturn, 1) := by decide +kernel
theorem d_Mod_mark_27 : decode b_Mod_mark 27 = .ok (.aload_n 0, 1) := by decide +kernel
theorem d_Mod_mark_28 : decode b_Mod_mark 28 = .ok (.getfield 28, 3) := by decide +kernel
theorem d_Mod_mark_31 : decode b_Mod_mark 31 = .ok (.aload_n 0, 1) := by decide +kernel
theorem d_Mod_mark_32 : decode b_Mod_mark 32 = .ok (.invokevirtual 112, 3) := by decide +kernel
theorem d_Mod_mark_35 : decode b_Mod_mark 35 = .ok (.putfield 99, 3) := by decide +kernel
theorem d_Mod_mark_38 : decode b_Mod_mark 38 = .ok (.aload_n 0, 1) := by decide +kernel
theorem d_Mod_mark_39 : decode b_Mod_mark 39 = .ok (.getfield 59, 3) := by decide +kernel
theorem d_Mod_mark_42 : decode b_Mod_mark 42 = .ok (.ireturn, 1) := by decide +kernel
abbrev b_Mod_write : ByteArray := prog_13_method_13_code
abbrev y_Mod_write : MethodName := ⟨"ReplacementWriterModel", "write", "(I)I"⟩
theorem d_Mod_write_0 : decode b_Mod_write 0 = .ok (.aload_n 0, 1) := by decide +kernel
theorem d_Mod_write_1 : decode b_Mod_write 1 = .ok (.iconst 0, 1) := by decide +kernel
theorem d_Mod_write_2 : decode b_Mod_write 2 = .ok (.putfield 41, 3) := by decide +kernel
theorem d_Mod_write_5 : decode b_Mod_write 5 = .ok (.aload_n 0, 1) := by decide +kernel
theorem d_Mod_write_6 : decode b_Mod_write 6 = .ok (.iconst 1, 1) := by decide +kernel
theorem d_Mod_write_7 : decode b_Mod_write 7 = .ok (.iload_n 1, 1) := by decide +kernel
theorem d_Mod_write_8 : decode b_Mod_write 8 = .ok (.sipush (-7681), 3) := by decide +kernel
theorem d_Mod_write_11 : decode b_Mod_write 11 = .ok (.iand, 1) := by decide +kernel
theorem d_Mod_write_12 : decode b_Mod_write 12 = .ok (.ifCond .eq 7, 3) := by decide +kernel
theorem d_Mod_write_15 : decode b_Mod_write 15 = .ok (.iconst 1, 1) := by decide +kernel
theorem d_Mod_write_16 : decode b_Mod_write 16 = .ok (.goto 4, 3) := by decide +kernel
theorem d_Mod_write_19 : decode b_Mod_write 19 = .ok (.iconst 0, 1) := by decide +kernel
theorem d_Mod_write_20 : decode b_Mod_write 20 = .ok (.invokevirtual 70, 3) := by decide +kernel
theorem d_Mod_write_23 : decode b_Mod_write 23 = .ok (.ifCond .eq 5, 3) := by decide +kernel
theorem d_Mod_write_26 : decode b_Mod_write 26 = .ok (.iconst 0, 1) := by decide +kernel
theorem d_Mod_write_27 : decode b_Mod_write 27 = .ok (.ireturn, 1) := by decide +kernel
theorem d_Mod_write_28 : decode b_Mod_write 28 = .ok (.aload_n 0, 1) := by decide +kernel
theorem d_Mod_write_29 : decode b_Mod_write 29 = .ok (.getfield 21, 3) := by decide +kernel
theorem d_Mod_write_32 : decode b_Mod_write 32 = .ok (.iconst 0, 1) := by decide +kernel
theorem d_Mod_write_33 : decode b_Mod_write 33 = .ok (.putfield 135, 3) := by decide +kernel
theorem d_Mod_write_36 : decode b_Mod_write 36 = .ok (.aload_n 0, 1) := by decide +kernel
theorem d_Mod_write_37 : decode b_Mod_write 37 = .ok (.aload_n 0, 1) := by decide +kernel
theorem d_Mod_write_38 : decode b_Mod_write 38 = .ok (.invokevirtual 108, 3) := by decide +kernel
theorem d_Mod_write_41 : decode b_Mod_write 41 = .ok (.putfield 62, 3) := by decide +kernel
theorem d_Mod_write_44 : decode b_Mod_write 44 = .ok (.aload_n 0, 1) := by decide +kernel
theorem d_Mod_write_45 : decode b_Mod_write 45 = .ok (.bipush (-3), 2) := by decide +kernel
theorem d_Mod_write_47 : decode b_Mod_write 47 = .ok (.putfield 44, 3) := by decide +kernel
theorem d_Mod_write_50 : decode b_Mod_write 50 = .ok (.aload_n 0, 1) := by decide +kernel
theorem d_Mod_write_51 : decode b_Mod_write 51 = .ok (.getfield 62, 3) := by decide +kernel
theorem d_Mod_write_54 : decode b_Mod_write 54 = .ok (.ifCond .ge 71, 3) := by decide +kernel
theorem d_Mod_write_57 : decode b_Mod_write 57 = .ok (.aload_n 0, 1) := by decide +kernel
theorem d_Mod_write_58 : decode b_Mod_write 58 = .ok (.getfield 21, 3) := by decide +kernel
theorem d_Mod_write_61 : decode b_Mod_write 61 = .ok (.aload_n 0, 1) := by decide +kernel
theorem d_Mod_write_62 : decode b_Mod_write 62 = .ok (.getfield 51, 3) := by decide +kernel
theorem d_Mod_write_65 : decode b_Mod_write 65 = .ok (.putfield 136, 3) := by decide +kernel
theorem d_Mod_write_68 : decode b_Mod_write 68 = .ok (.aload_n 0, 1) := by decide +kernel
theorem d_Mod_write_69 : decode b_Mod_write 69 = .ok (.getfield 21, 3) := by decide +kernel
theorem d_Mod_write_72 : decode b_Mod_write 72 = .ok (.aload_n 0, 1) := by decide +kernel
theorem d_Mod_write_73 : decode b_Mod_write 73 = .ok (.getfield 59, 3) := by decide +kernel
theorem d_Mod_write_76 : decode b_Mod_write 76 = .ok (.putfield 139, 3) := by decide +kernel
theorem d_Mod_write_79 : decode b_Mod_write 79 = .ok (.aload_n 0, 1) := by decide +kernel
theorem d_Mod_write_80 : decode b_Mod_write 80 = .ok (.aload_n 0, 1) := by decide +kernel
theorem d_Mod_write_81 : decode b_Mod_write 81 = .ok (.getfield 21, 3) := by decide +kernel
theorem d_Mod_write_84 : decode b_Mod_write 84 = .ok (.aload_n 0, 1) := by decide +kernel
theorem d_Mod_write_85 : decode b_Mod_write 85 = .ok (.getfield 28, 3) := by decide +kernel
theorem d_Mod_write_88 : decode b_Mod_write 88 = .ok (.iload_n 1, 1) := by decide +kernel
theorem d_Mod_write_89 : decode b_Mod_write 89 = .ok (.invokevirtual 140, 3) := by decide +kernel
theorem d_Mod_write_92 : decode b_Mod_write 92 = .ok (.putfield 44, 3) := by decide +kernel
theorem d_Mod_write_95 : decode b_Mod_write 95 = .ok (.aload_n 0, 1) := by decide +kernel
theorem d_Mod_write_96 : decode b_Mod_write 96 = .ok (.aload_n 0, 1) := by decide +kernel
theorem d_Mod_write_97 : decode b_Mod_write 97 = .ok (.getfield 21, 3) := by decide +kernel
theorem d_Mod_write_100 : decode b_Mod_write 100 = .ok (.getfield 144, 3) := by decide +kernel
theorem d_Mod_write_103 : decode b_Mod_write 103 = .ok (.ifCond .ge 7, 3) := by decide +kernel
theorem d_Mod_write_106 : decode b_Mod_write 106 = .ok (.iconst (-1), 1) := by decide +kernel
theorem d_Mod_write_107 : decode b_Mod_write 107 = .ok (.goto 15, 3) := by decide +kernel
theorem d_Mod_write_110 : decode b_Mod_write 110 = .ok (.aload_n 0, 1) := by decide +kernel
theorem d_Mod_write_111 : decode b_Mod_write 111 = .ok (.getfield 56, 3) := by decide +kernel
theorem d_Mod_write_114 : decode b_Mod_write 114 = .ok (.aload_n 0, 1) := by decide +kernel
theorem d_Mod_write_115 : decode b_Mod_write 115 = .ok (.getfield 21, 3) := by decide +kernel
theorem d_Mod_write_118 : decode b_Mod_write 118 = .ok (.getfield 144, 3) := by decide +kernel
theorem d_Mod_write_121 : decode b_Mod_write 121 = .ok (.iaload, 1) := by decide +kernel
theorem d_Mod_write_122 : decode b_Mod_write 122 = .ok (.putfield 62, 3) := by decide +kernel
theorem d_Mod_write_125 : decode b_Mod_write 125 = .ok (.aload_n 0, 1) := by decide +kernel
theorem d_Mod_write_126 : decode b_Mod_write 126 = .ok (.getfield 44, 3) := by decide +kernel
theorem d_Mod_write_129 : decode b_Mod_write 129 = .ok (.ifCond .eq 11, 3) := by decide +kernel
theorem d_Mod_write_132 : decode b_Mod_write 132 = .ok (.aload_n 0, 1) := by decide +kernel
theorem d_Mod_write_133 : decode b_Mod_write 133 = .ok (.getfield 21, 3) := by decide +kernel
theorem d_Mod_write_136 : decode b_Mod_write 136 = .ok (.iconst 0, 1) := by decide +kernel
theorem d_Mod_write_137 : decode b_Mod_write 137 = .ok (.putfield 135, 3) := by decide +kernel
theorem d_Mod_write_140 : decode b_Mod_write 140 = .ok (.aload_n 0, 1) := by decide +kernel
theorem d_Mod_write_141 : decode b_Mod_write 141 = .ok (.getfield 44, 3) := by decide +kernel
theorem d_Mod_write_144 : decode b_Mod_write 144 = .ok (.ifCond .eq 10, 3) := by decide +kernel
theorem d_Mod_write_147 : decode b_Mod_write 147 = .ok (.aload_n 0, 1) := by decide +kernel
theorem d_Mod_write_148 : decode b_Mod_write 148 = .ok (.getfield 44, 3) := by decide +kernel
theorem d_Mod_write_151 : decode b_Mod_write 151 = .ok (.goto 10, 3) := by decide +kernel
theorem d_Mod_write_154 : decode b_Mod_write 154 = .ok (.aload_n 0, 1) := by decide +kernel
theorem d_Mod_write_155 : decode b_Mod_write 155 = .ok (.getfield 21, 3) := by decide +kernel
theorem d_Mod_write_158 : decode b_Mod_write 158 = .ok (.getfield 135, 3) := by decide +kernel
theorem d_Mod_write_161 : decode b_Mod_write 161 = .ok (.ireturn, 1) := by decide +kernel
abbrev b_Holder_markLength : ByteArray := prog_14_method_6_code
abbrev y_Holder_markLength : MethodName := ⟨"ReplacementWriterModel$Holder", "markLength", "()I"⟩
theorem d_Holder_markLength_0 : decode b_Holder_markLength 0 = .ok (.aload_n 0, 1) := by decide +kernel
theorem d_Holder_markLength_1 : decode b_Holder_markLength 1 = .ok (.getfield 29, 3) := by decide +kernel
theorem d_Holder_markLength_4 : decode b_Holder_markLength 4 = .ok (.arraylength, 1) := by decide +kernel
theorem d_Holder_markLength_5 : decode b_Holder_markLength 5 = .ok (.ireturn, 1) := by decide +kernel
abbrev b_Holder_markAt : ByteArray := prog_14_method_7_code
abbrev y_Holder_markAt : MethodName := ⟨"ReplacementWriterModel$Holder", "markAt", "(I)I"⟩
theorem d_Holder_markAt_0 : decode b_Holder_markAt 0 = .ok (.aload_n 0, 1) := by decide +kernel
theorem d_Holder_markAt_1 : decode b_Holder_markAt 1 = .ok (.getfield 29, 3) := by decide +kernel
theorem d_Holder_markAt_4 : decode b_Holder_markAt 4 = .ok (.iload_n 1, 1) := by decide +kernel
theorem d_Holder_markAt_5 : decode b_Holder_markAt 5 = .ok (.iaload, 1) := by decide +kernel
theorem d_Holder_markAt_6 : decode b_Holder_markAt 6 = .ok (.ireturn, 1) := by decide +kernel
abbrev b_Holder_groups : ByteArray := prog_14_method_2_code
abbrev y_Holder_groups : MethodName := ⟨"ReplacementWriterModel$Holder", "groups", "()I"⟩
theorem d_Holder_groups_0 : decode b_Holder_groups 0 = .ok (.aload_n 0, 1) := by decide +kernel
theorem d_Holder_groups_1 : decode b_Holder_groups 1 = .ok (.getfield 7, 3) := by decide +kernel
theorem d_Holder_groups_4 : decode b_Holder_groups 4 = .ok (.ireturn, 1) := by decide +kernel
abbrev b_Holder_length : ByteArray := prog_14_method_3_code
abbrev y_Holder_length : MethodName := ⟨"ReplacementWriterModel$Holder", "length", "(I)I"⟩
theorem d_Holder_length_0 : decode b_Holder_length 0 = .ok (.aload_n 0, 1) := by decide +kernel
theorem d_Holder_length_1 : decode b_Holder_length 1 = .ok (.getfield 15, 3) := by decide +kernel
theorem d_Holder_length_4 : decode b_Holder_length 4 = .ok (.iload_n 1, 1) := by decide +kernel
theorem d_Holder_length_5 : decode b_Holder_length 5 = .ok (.aaload, 1) := by decide +kernel
theorem d_Holder_length_6 : decode b_Holder_length 6 = .ok (.ifnonnull 7, 3) := by decide +kernel
theorem d_Holder_length_9 : decode b_Holder_length 9 = .ok (.iconst (-1), 1) := by decide +kernel
theorem d_Holder_length_10 : decode b_Holder_length 10 = .ok (.goto 10, 3) := by decide +kernel
theorem d_Holder_length_13 : decode b_Holder_length 13 = .ok (.aload_n 0, 1) := by decide +kernel
theorem d_Holder_length_14 : decode b_Holder_length 14 = .ok (.getfield 15, 3) := by decide +kernel
theorem d_Holder_length_17 : decode b_Holder_length 17 = .ok (.iload_n 1, 1) := by decide +kernel
theorem d_Holder_length_18 : decode b_Holder_length 18 = .ok (.aaload, 1) := by decide +kernel
theorem d_Holder_length_19 : decode b_Holder_length 19 = .ok (.arraylength, 1) := by decide +kernel
theorem d_Holder_length_20 : decode b_Holder_length 20 = .ok (.ireturn, 1) := by decide +kernel
abbrev b_Holder_named : ByteArray := prog_14_method_5_code
abbrev y_Holder_named : MethodName := ⟨"ReplacementWriterModel$Holder", "named", "([III)I"⟩
theorem d_Holder_named_0 : decode b_Holder_named 0 = .ok (.iconst (-1), 1) := by decide +kernel
theorem d_Holder_named_1 : decode b_Holder_named 1 = .ok (.istore 4, 2) := by decide +kernel
theorem d_Holder_named_3 : decode b_Holder_named 3 = .ok (.iconst 0, 1) := by decide +kernel
theorem d_Holder_named_4 : decode b_Holder_named 4 = .ok (.istore 5, 2) := by decide +kernel
theorem d_Holder_named_6 : decode b_Holder_named 6 = .ok (.iload 5, 2) := by decide +kernel
theorem d_Holder_named_8 : decode b_Holder_named 8 = .ok (.aload_n 0, 1) := by decide +kernel
theorem d_Holder_named_9 : decode b_Holder_named 9 = .ok (.getfield 22, 3) := by decide +kernel
theorem d_Holder_named_12 : decode b_Holder_named 12 = .ok (.invokevirtual 32, 3) := by decide +kernel
theorem d_Holder_named_15 : decode b_Holder_named 15 = .ok (.if_icmp .ge 146, 3) := by decide +kernel
theorem d_Holder_named_18 : decode b_Holder_named 18 = .ok (.aload_n 0, 1) := by decide +kernel
theorem d_Holder_named_19 : decode b_Holder_named 19 = .ok (.getfield 22, 3) := by decide +kernel
theorem d_Holder_named_22 : decode b_Holder_named 22 = .ok (.iload 5, 2) := by decide +kernel
theorem d_Holder_named_24 : decode b_Holder_named 24 = .ok (.invokevirtual 36, 3) := by decide +kernel
theorem d_Holder_named_27 : decode b_Holder_named 27 = .ok (.checkcast 13, 3) := by decide +kernel
theorem d_Holder_named_30 : decode b_Holder_named 30 = .ok (.astore 6, 2) := by decide +kernel
theorem d_Holder_named_32 : decode b_Holder_named 32 = .ok (.aload 6, 2) := by decide +kernel
theorem d_Holder_named_34 : decode b_Holder_named 34 = .ok (.arraylength, 1) := by decide +kernel
theorem d_Holder_named_35 : decode b_Holder_named 35 = .ok (.iload_n 3, 1) := by decide +kernel
theorem d_Holder_named_36 : decode b_Holder_named 36 = .ok (.iload_n 2, 1) := by decide +kernel
theorem d_Holder_named_37 : decode b_Holder_named 37 = .ok (.isub, 1) := by decide +kernel
theorem d_Holder_named_38 : decode b_Holder_named 38 = .ok (.if_icmp .ne 7, 3) := by decide +kernel
theorem d_Holder_named_41 : decode b_Holder_named 41 = .ok (.iconst 1, 1) := by decide +kernel
theorem d_Holder_named_42 : decode b_Holder_named 42 = .ok (.goto 4, 3) := by decide +kernel
theorem d_Holder_named_45 : decode b_Holder_named 45 = .ok (.iconst 0, 1) := by decide +kernel
theorem d_Holder_named_46 : decode b_Holder_named 46 = .ok (.istore 7, 2) := by decide +kernel
theorem d_Holder_named_48 : decode b_Holder_named 48 = .ok (.iconst 0, 1) := by decide +kernel
theorem d_Holder_named_49 : decode b_Holder_named 49 = .ok (.istore 8, 2) := by decide +kernel
theorem d_Holder_named_51 : decode b_Holder_named 51 = .ok (.iload 7, 2) := by decide +kernel
theorem d_Holder_named_53 : decode b_Holder_named 53 = .ok (.ifCond .eq 38, 3) := by decide +kernel
theorem d_Holder_named_56 : decode b_Holder_named 56 = .ok (.iload 8, 2) := by decide +kernel
theorem d_Holder_named_58 : decode b_Holder_named 58 = .ok (.aload 6, 2) := by decide +kernel
theorem d_Holder_named_60 : decode b_Holder_named 60 = .ok (.arraylength, 1) := by decide +kernel
theorem d_Holder_named_61 : decode b_Holder_named 61 = .ok (.if_icmp .ge 30, 3) := by decide +kernel
theorem d_Holder_named_64 : decode b_Holder_named 64 = .ok (.aload 6, 2) := by decide +kernel
theorem d_Holder_named_66 : decode b_Holder_named 66 = .ok (.iload 8, 2) := by decide +kernel
theorem d_Holder_named_68 : decode b_Holder_named 68 = .ok (.iaload, 1) := by decide +kernel
theorem d_Holder_named_69 : decode b_Holder_named 69 = .ok (.aload_n 1, 1) := by decide +kernel
theorem d_Holder_named_70 : decode b_Holder_named 70 = .ok (.iload_n 2, 1) := by decide +kernel
theorem d_Holder_named_71 : decode b_Holder_named 71 = .ok (.iload 8, 2) := by decide +kernel
theorem d_Holder_named_73 : decode b_Holder_named 73 = .ok (.iadd, 1) := by decide +kernel
theorem d_Holder_named_74 : decode b_Holder_named 74 = .ok (.iaload, 1) := by decide +kernel
theorem d_Holder_named_75 : decode b_Holder_named 75 = .ok (.if_icmp .ne 7, 3) := by decide +kernel
theorem d_Holder_named_78 : decode b_Holder_named 78 = .ok (.iconst 1, 1) := by decide +kernel
theorem d_Holder_named_79 : decode b_Holder_named 79 = .ok (.goto 4, 3) := by decide +kernel
theorem d_Holder_named_82 : decode b_Holder_named 82 = .ok (.iconst 0, 1) := by decide +kernel
theorem d_Holder_named_83 : decode b_Holder_named 83 = .ok (.istore 7, 2) := by decide +kernel
theorem d_Holder_named_85 : decode b_Holder_named 85 = .ok (.iinc 8 1, 3) := by decide +kernel
theorem d_Holder_named_88 : decode b_Holder_named 88 = .ok (.goto (-37), 3) := by decide +kernel
theorem d_Holder_named_91 : decode b_Holder_named 91 = .ok (.iload 7, 2) := by decide +kernel
theorem d_Holder_named_93 : decode b_Holder_named 93 = .ok (.ifCond .ne 6, 3) := by decide +kernel
theorem d_Holder_named_96 : decode b_Holder_named 96 = .ok (.goto 59, 3) := by decide +kernel
theorem d_Holder_named_99 : decode b_Holder_named 99 = .ok (.aload_n 0, 1) := by decide +kernel
theorem d_Holder_named_100 : decode b_Holder_named 100 = .ok (.getfield 26, 3) := by decide +kernel
theorem d_Holder_named_103 : decode b_Holder_named 103 = .ok (.iload 5, 2) := by decide +kernel
theorem d_Holder_named_105 : decode b_Holder_named 105 = .ok (.invokevirtual 36, 3) := by decide +kernel
theorem d_Holder_named_108 : decode b_Holder_named 108 = .ok (.checkcast 40, 3) := by decide +kernel
theorem d_Holder_named_111 : decode b_Holder_named 111 = .ok (.invokevirtual 42, 3) := by decide +kernel
theorem d_Holder_named_114 : decode b_Holder_named 114 = .ok (.istore 8, 2) := by decide +kernel
theorem d_Holder_named_116 : decode b_Holder_named 116 = .ok (.aload_n 0, 1) := by decide +kernel
theorem d_Holder_named_117 : decode b_Holder_named 117 = .ok (.getfield 15, 3) := by decide +kernel
theorem d_Holder_named_120 : decode b_Holder_named 120 = .ok (.iload 8, 2) := by decide +kernel
theorem d_Holder_named_122 : decode b_Holder_named 122 = .ok (.aaload, 1) := by decide +kernel
theorem d_Holder_named_123 : decode b_Holder_named 123 = .ok (.ifnonnull 16, 3) := by decide +kernel
theorem d_Holder_named_126 : decode b_Holder_named 126 = .ok (.iload 4, 2) := by decide +kernel
theorem d_Holder_named_128 : decode b_Holder_named 128 = .ok (.iconst (-1), 1) := by decide +kernel
theorem d_Holder_named_129 : decode b_Holder_named 129 = .ok (.if_icmp .ne 26, 3) := by decide +kernel
theorem d_Holder_named_132 : decode b_Holder_named 132 = .ok (.bipush (-2), 2) := by decide +kernel
theorem d_Holder_named_134 : decode b_Holder_named 134 = .ok (.istore 4, 2) := by decide +kernel
theorem d_Holder_named_136 : decode b_Holder_named 136 = .ok (.goto 19, 3) := by decide +kernel
theorem d_Holder_named_139 : decode b_Holder_named 139 = .ok (.iload 4, 2) := by decide +kernel
theorem d_Holder_named_141 : decode b_Holder_named 141 = .ok (.ifCond .lt 10, 3) := by decide +kernel
theorem d_Holder_named_144 : decode b_Holder_named 144 = .ok (.iload 8, 2) := by decide +kernel
theorem d_Holder_named_146 : decode b_Holder_named 146 = .ok (.iload 4, 2) := by decide +kernel
theorem d_Holder_named_148 : decode b_Holder_named 148 = .ok (.if_icmp .ge 7, 3) := by decide +kernel
theorem d_Holder_named_151 : decode b_Holder_named 151 = .ok (.iload 8, 2) := by decide +kernel
theorem d_Holder_named_153 : decode b_Holder_named 153 = .ok (.istore 4, 2) := by decide +kernel
theorem d_Holder_named_155 : decode b_Holder_named 155 = .ok (.iinc 5 1, 3) := by decide +kernel
theorem d_Holder_named_158 : decode b_Holder_named 158 = .ok (.goto (-152), 3) := by decide +kernel
theorem d_Holder_named_161 : decode b_Holder_named 161 = .ok (.iload 4, 2) := by decide +kernel
theorem d_Holder_named_163 : decode b_Holder_named 163 = .ok (.ireturn, 1) := by decide +kernel
abbrev b_Holder_at : ByteArray := prog_14_method_4_code
abbrev y_Holder_at : MethodName := ⟨"ReplacementWriterModel$Holder", "at", "(II)I"⟩
theorem d_Holder_at_0 : decode b_Holder_at 0 = .ok (.aload_n 0, 1) := by decide +kernel
theorem d_Holder_at_1 : decode b_Holder_at 1 = .ok (.getfield 15, 3) := by decide +kernel
theorem d_Holder_at_4 : decode b_Holder_at 4 = .ok (.iload_n 1, 1) := by decide +kernel
theorem d_Holder_at_5 : decode b_Holder_at 5 = .ok (.aaload, 1) := by decide +kernel
theorem d_Holder_at_6 : decode b_Holder_at 6 = .ok (.iload_n 2, 1) := by decide +kernel
theorem d_Holder_at_7 : decode b_Holder_at 7 = .ok (.iaload, 1) := by decide +kernel
theorem d_Holder_at_8 : decode b_Holder_at 8 = .ok (.ireturn, 1) := by decide +kernel
abbrev b_Mod_result : ByteArray := prog_13_method_14_code
abbrev y_Mod_result : MethodName := ⟨"ReplacementWriterModel", "result", "(I)I"⟩
theorem d_Mod_result_0 : decode b_Mod_result 0 = .ok (.aload_n 0, 1) := by decide +kernel
theorem d_Mod_result_1 : decode b_Mod_result 1 = .ok (.iconst 0, 1) := by decide +kernel
theorem d_Mod_result_2 : decode b_Mod_result 2 = .ok (.putfield 41, 3) := by decide +kernel
theorem d_Mod_result_5 : decode b_Mod_result 5 = .ok (.aload_n 0, 1) := by decide +kernel
theorem d_Mod_result_6 : decode b_Mod_result 6 = .ok (.iconst 1, 1) := by decide +kernel
theorem d_Mod_result_7 : decode b_Mod_result 7 = .ok (.iload_n 1, 1) := by decide +kernel
theorem d_Mod_result_8 : decode b_Mod_result 8 = .ok (.ifCond .lt 14, 3) := by decide +kernel
theorem d_Mod_result_11 : decode b_Mod_result 11 = .ok (.iload_n 1, 1) := by decide +kernel
theorem d_Mod_result_12 : decode b_Mod_result 12 = .ok (.aload_n 0, 1) := by decide +kernel
theorem d_Mod_result_13 : decode b_Mod_result 13 = .ok (.getfield 21, 3) := by decide +kernel
theorem d_Mod_result_16 : decode b_Mod_result 16 = .ok (.getfield 135, 3) := by decide +kernel
theorem d_Mod_result_19 : decode b_Mod_result 19 = .ok (.if_icmp .lt 7, 3) := by decide +kernel
theorem d_Mod_result_22 : decode b_Mod_result 22 = .ok (.iconst 1, 1) := by decide +kernel
theorem d_Mod_result_23 : decode b_Mod_result 23 = .ok (.goto 4, 3) := by decide +kernel
theorem d_Mod_result_26 : decode b_Mod_result 26 = .ok (.iconst 0, 1) := by decide +kernel
theorem d_Mod_result_27 : decode b_Mod_result 27 = .ok (.invokevirtual 70, 3) := by decide +kernel
theorem d_Mod_result_30 : decode b_Mod_result 30 = .ok (.ifCond .eq 5, 3) := by decide +kernel
theorem d_Mod_result_33 : decode b_Mod_result 33 = .ok (.iconst 0, 1) := by decide +kernel
theorem d_Mod_result_34 : decode b_Mod_result 34 = .ok (.ireturn, 1) := by decide +kernel
theorem d_Mod_result_35 : decode b_Mod_result 35 = .ok (.aload_n 0, 1) := by decide +kernel
theorem d_Mod_result_36 : decode b_Mod_result 36 = .ok (.getfield 21, 3) := by decide +kernel
theorem d_Mod_result_39 : decode b_Mod_result 39 = .ok (.getfield 147, 3) := by decide +kernel
theorem d_Mod_result_42 : decode b_Mod_result 42 = .ok (.iload_n 1, 1) := by decide +kernel
theorem d_Mod_result_43 : decode b_Mod_result 43 = .ok (.baload, 1) := by decide +kernel
theorem d_Mod_result_44 : decode b_Mod_result 44 = .ok (.sipush 255, 3) := by decide +kernel
theorem d_Mod_result_47 : decode b_Mod_result 47 = .ok (.iand, 1) := by decide +kernel
theorem d_Mod_result_48 : decode b_Mod_result 48 = .ok (.ireturn, 1) := by decide +kernel
abbrev b_Mod_fault : ByteArray := prog_13_method_15_code
abbrev y_Mod_fault : MethodName := ⟨"ReplacementWriterModel", "fault", "(I)I"⟩
theorem d_Mod_fault_0 : decode b_Mod_fault 0 = .ok (.aload_n 0, 1) := by decide +kernel
theorem d_Mod_fault_1 : decode b_Mod_fault 1 = .ok (.iconst 0, 1) := by decide +kernel
theorem d_Mod_fault_2 : decode b_Mod_fault 2 = .ok (.putfield 41, 3) := by decide +kernel
theorem d_Mod_fault_5 : decode b_Mod_fault 5 = .ok (.aload_n 0, 1) := by decide +kernel
theorem d_Mod_fault_6 : decode b_Mod_fault 6 = .ok (.iconst 1, 1) := by decide +kernel
theorem d_Mod_fault_7 : decode b_Mod_fault 7 = .ok (.iload_n 1, 1) := by decide +kernel
theorem d_Mod_fault_8 : decode b_Mod_fault 8 = .ok (.ifCond .lt 8, 3) := by decide +kernel
theorem d_Mod_fault_11 : decode b_Mod_fault 11 = .ok (.iload_n 1, 1) := by decide +kernel
theorem d_Mod_fault_12 : decode b_Mod_fault 12 = .ok (.iconst 1, 1) := by decide +kernel
theorem d_Mod_fault_13 : decode b_Mod_fault 13 = .ok (.if_icmp .le 7, 3) := by decide +kernel
theorem d_Mod_fault_16 : decode b_Mod_fault 16 = .ok (.iconst 1, 1) := by decide +kernel
theorem d_Mod_fault_17 : decode b_Mod_fault 17 = .ok (.goto 4, 3) := by decide +kernel
theorem d_Mod_fault_20 : decode b_Mod_fault 20 = .ok (.iconst 0, 1) := by decide +kernel
theorem d_Mod_fault_21 : decode b_Mod_fault 21 = .ok (.invokevirtual 70, 3) := by decide +kernel
theorem d_Mod_fault_24 : decode b_Mod_fault 24 = .ok (.ifCond .eq 5, 3) := by decide +kernel
theorem d_Mod_fault_27 : decode b_Mod_fault 27 = .ok (.iconst 0, 1) := by decide +kernel
theorem d_Mod_fault_28 : decode b_Mod_fault 28 = .ok (.ireturn, 1) := by decide +kernel
theorem d_Mod_fault_29 : decode b_Mod_fault 29 = .ok (.iload_n 1, 1) := by decide +kernel
theorem d_Mod_fault_30 : decode b_Mod_fault 30 = .ok (.ifCond .ne 10, 3) := by decide +kernel
theorem d_Mod_fault_33 : decode b_Mod_fault 33 = .ok (.aload_n 0, 1) := by decide +kernel
theorem d_Mod_fault_34 : decode b_Mod_fault 34 = .ok (.getfield 44, 3) := by decide +kernel
theorem d_Mod_fault_37 : decode b_Mod_fault 37 = .ok (.goto 7, 3) := by decide +kernel
theorem d_Mod_fault_40 : decode b_Mod_fault 40 = .ok (.aload_n 0, 1) := by decide +kernel
theorem d_Mod_fault_41 : decode b_Mod_fault 41 = .ok (.getfield 62, 3) := by decide +kernel
theorem d_Mod_fault_44 : decode b_Mod_fault 44 = .ok (.ireturn, 1) := by decide +kernel
abbrev b_Mod_count : ByteArray := prog_13_method_16_code
abbrev y_Mod_count : MethodName := ⟨"ReplacementWriterModel", "count", "(I)I"⟩
theorem d_Mod_count_0 : decode b_Mod_count 0 = .ok (.aload_n 0, 1) := by decide +kernel
theorem d_Mod_count_1 : decode b_Mod_count 1 = .ok (.iconst 0, 1) := by decide +kernel
theorem d_Mod_count_2 : decode b_Mod_count 2 = .ok (.putfield 41, 3) := by decide +kernel
theorem d_Mod_count_5 : decode b_Mod_count 5 = .ok (.iload_n 1, 1) := by decide +kernel
theorem d_Mod_count_6 : decode b_Mod_count 6 = .ok (.tableswitch 62 0 3 #[30, 35, 43, 51], 30) := by decide +kernel
theorem d_Mod_count_36 : decode b_Mod_count 36 = .ok (.aload_n 0, 1) := by decide +kernel
theorem d_Mod_count_37 : decode b_Mod_count 37 = .ok (.getfield 37, 3) := by decide +kernel
theorem d_Mod_count_40 : decode b_Mod_count 40 = .ok (.ireturn, 1) := by decide +kernel
theorem d_Mod_count_41 : decode b_Mod_count 41 = .ok (.aload_n 0, 1) := by decide +kernel
theorem d_Mod_count_42 : decode b_Mod_count 42 = .ok (.getfield 21, 3) := by decide +kernel
theorem d_Mod_count_45 : decode b_Mod_count 45 = .ok (.getfield 135, 3) := by decide +kernel
theorem d_Mod_count_48 : decode b_Mod_count 48 = .ok (.ireturn, 1) := by decide +kernel
theorem d_Mod_count_49 : decode b_Mod_count 49 = .ok (.aload_n 0, 1) := by decide +kernel
theorem d_Mod_count_50 : decode b_Mod_count 50 = .ok (.getfield 28, 3) := by decide +kernel
theorem d_Mod_count_53 : decode b_Mod_count 53 = .ok (.getfield 80, 3) := by decide +kernel
theorem d_Mod_count_56 : decode b_Mod_count 56 = .ok (.ireturn, 1) := by decide +kernel
theorem d_Mod_count_57 : decode b_Mod_count 57 = .ok (.aload_n 0, 1) := by decide +kernel
theorem d_Mod_count_58 : decode b_Mod_count 58 = .ok (.getfield 28, 3) := by decide +kernel
theorem d_Mod_count_61 : decode b_Mod_count 61 = .ok (.getfield 87, 3) := by decide +kernel
theorem d_Mod_count_64 : decode b_Mod_count 64 = .ok (.invokevirtual 133, 3) := by decide +kernel
theorem d_Mod_count_67 : decode b_Mod_count 67 = .ok (.ireturn, 1) := by decide +kernel
theorem d_Mod_count_68 : decode b_Mod_count 68 = .ok (.iconst (-1), 1) := by decide +kernel
theorem d_Mod_count_69 : decode b_Mod_count 69 = .ok (.ireturn, 1) := by decide +kernel
