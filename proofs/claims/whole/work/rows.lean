section
/-- a private method of a class that the tables say can be made, by its rows of tables_1 -/
def lw_okq (q : MethodName × Nat) : Prop := (q.1.cls ≠ "java/lang/invoke/MethodHandle" ∧ q.1.cls ≠ "java/lang/invoke/VarHandle") ∧ Cond.instantiable q.1.cls q.2 ∈ tables_1 ∧ Cond.privateMethod q.1 ∈ tables_1 ∧ Cond.instanceMethod q.1 ∈ tables_1
theorem lw_p0 : lw_okq (⟨"java/lang/Throwable", "fillInStackTrace", "(I)Ljava/lang/Throwable;"⟩, 6) := ⟨⟨by decide +kernel, by decide +kernel⟩, List.mem_of_getElem? (i := 322) (by decide +kernel), List.mem_of_getElem? (i := 320) (by decide +kernel), List.mem_of_getElem? (i := 321) (by decide +kernel)⟩
theorem lw_p1 : lw_okq (⟨"ReplacementWriter", "addFourBytes", "(I)V"⟩, 7) := ⟨⟨by decide +kernel, by decide +kernel⟩, List.mem_of_getElem? (i := 40) (by decide +kernel), List.mem_of_getElem? (i := 347) (by decide +kernel), List.mem_of_getElem? (i := 348) (by decide +kernel)⟩
theorem lw_p2 : lw_okq (⟨"ReplacementWriter$Encoding", "isGood", "(LReplacementWriter$Row;I)Z"⟩, 1) := ⟨⟨by decide +kernel, by decide +kernel⟩, List.mem_of_getElem? (i := 122) (by decide +kernel), List.mem_of_getElem? (i := 431) (by decide +kernel), List.mem_of_getElem? (i := 432) (by decide +kernel)⟩
theorem lw_p3 : lw_okq (⟨"ReplacementWriter", "takeText", "()I"⟩, 7) := ⟨⟨by decide +kernel, by decide +kernel⟩, List.mem_of_getElem? (i := 40) (by decide +kernel), List.mem_of_getElem? (i := 487) (by decide +kernel), List.mem_of_getElem? (i := 488) (by decide +kernel)⟩
theorem lw_p4 : lw_okq (⟨"java/util/ArrayList", "add", "(Ljava/lang/Object;[Ljava/lang/Object;I)V"⟩, 3) := ⟨⟨by decide +kernel, by decide +kernel⟩, List.mem_of_getElem? (i := 74) (by decide +kernel), List.mem_of_getElem? (i := 577) (by decide +kernel), List.mem_of_getElem? (i := 578) (by decide +kernel)⟩
theorem lw_p5 : lw_okq (⟨"java/util/ArrayList", "grow", "()[Ljava/lang/Object;"⟩, 3) := ⟨⟨by decide +kernel, by decide +kernel⟩, List.mem_of_getElem? (i := 74) (by decide +kernel), List.mem_of_getElem? (i := 581) (by decide +kernel), List.mem_of_getElem? (i := 582) (by decide +kernel)⟩
theorem lw_p6 : lw_okq (⟨"java/util/ArrayList", "grow", "(I)[Ljava/lang/Object;"⟩, 3) := ⟨⟨by decide +kernel, by decide +kernel⟩, List.mem_of_getElem? (i := 74) (by decide +kernel), List.mem_of_getElem? (i := 585) (by decide +kernel), List.mem_of_getElem? (i := 586) (by decide +kernel)⟩
theorem lw_p7 : lw_okq (⟨"ReplacementWriter$Writing", "writePart", "(III)V"⟩, 10) := ⟨⟨by decide +kernel, by decide +kernel⟩, List.mem_of_getElem? (i := 174) (by decide +kernel), List.mem_of_getElem? (i := 689) (by decide +kernel), List.mem_of_getElem? (i := 690) (by decide +kernel)⟩
theorem lw_p8 : lw_okq (⟨"ReplacementWriter$Writing", "writeDollar", "(III)I"⟩, 10) := ⟨⟨by decide +kernel, by decide +kernel⟩, List.mem_of_getElem? (i := 174) (by decide +kernel), List.mem_of_getElem? (i := 694) (by decide +kernel), List.mem_of_getElem? (i := 695) (by decide +kernel)⟩
theorem lw_p9 : lw_okq (⟨"ReplacementWriter$Writing", "peek", "(II)I"⟩, 10) := ⟨⟨by decide +kernel, by decide +kernel⟩, List.mem_of_getElem? (i := 174) (by decide +kernel), List.mem_of_getElem? (i := 698) (by decide +kernel), List.mem_of_getElem? (i := 699) (by decide +kernel)⟩
theorem lw_p10 : lw_okq (⟨"ReplacementWriter$Writing", "writeMark", "(IIZ)I"⟩, 10) := ⟨⟨by decide +kernel, by decide +kernel⟩, List.mem_of_getElem? (i := 174) (by decide +kernel), List.mem_of_getElem? (i := 703) (by decide +kernel), List.mem_of_getElem? (i := 704) (by decide +kernel)⟩
theorem lw_p11 : lw_okq (⟨"ReplacementWriter$Writing", "referenceEnd", "(II)I"⟩, 10) := ⟨⟨by decide +kernel, by decide +kernel⟩, List.mem_of_getElem? (i := 174) (by decide +kernel), List.mem_of_getElem? (i := 713) (by decide +kernel), List.mem_of_getElem? (i := 714) (by decide +kernel)⟩
theorem lw_p12 : lw_okq (⟨"ReplacementWriter$Writing", "writeGroup", "(IIII)I"⟩, 10) := ⟨⟨by decide +kernel, by decide +kernel⟩, List.mem_of_getElem? (i := 174) (by decide +kernel), List.mem_of_getElem? (i := 720) (by decide +kernel), List.mem_of_getElem? (i := 721) (by decide +kernel)⟩
theorem lw_p13 : lw_okq (⟨"ReplacementWriter$Writing", "groupFor", "(II)I"⟩, 10) := ⟨⟨by decide +kernel, by decide +kernel⟩, List.mem_of_getElem? (i := 174) (by decide +kernel), List.mem_of_getElem? (i := 724) (by decide +kernel), List.mem_of_getElem? (i := 725) (by decide +kernel)⟩
theorem lw_p14 : lw_okq (⟨"ReplacementWriter$Writing", "writeChoice", "(IIIII)I"⟩, 10) := ⟨⟨by decide +kernel, by decide +kernel⟩, List.mem_of_getElem? (i := 174) (by decide +kernel), List.mem_of_getElem? (i := 743) (by decide +kernel), List.mem_of_getElem? (i := 744) (by decide +kernel)⟩
theorem lw_p15 : lw_okq (⟨"ReplacementWriter$Writing", "partEnd", "(IIZ)I"⟩, 10) := ⟨⟨by decide +kernel, by decide +kernel⟩, List.mem_of_getElem? (i := 174) (by decide +kernel), List.mem_of_getElem? (i := 747) (by decide +kernel), List.mem_of_getElem? (i := 748) (by decide +kernel)⟩
def lw_privs_1 : List (MethodName × Nat) := [(⟨"java/lang/Throwable", "fillInStackTrace", "(I)Ljava/lang/Throwable;"⟩, 6), (⟨"ReplacementWriter", "addFourBytes", "(I)V"⟩, 7), (⟨"ReplacementWriter$Encoding", "isGood", "(LReplacementWriter$Row;I)Z"⟩, 1), (⟨"ReplacementWriter", "takeText", "()I"⟩, 7), (⟨"java/util/ArrayList", "add", "(Ljava/lang/Object;[Ljava/lang/Object;I)V"⟩, 3), (⟨"java/util/ArrayList", "grow", "()[Ljava/lang/Object;"⟩, 3), (⟨"java/util/ArrayList", "grow", "(I)[Ljava/lang/Object;"⟩, 3), (⟨"ReplacementWriter$Writing", "writePart", "(III)V"⟩, 10), (⟨"ReplacementWriter$Writing", "writeDollar", "(III)I"⟩, 10), (⟨"ReplacementWriter$Writing", "peek", "(II)I"⟩, 10), (⟨"ReplacementWriter$Writing", "writeMark", "(IIZ)I"⟩, 10), (⟨"ReplacementWriter$Writing", "referenceEnd", "(II)I"⟩, 10), (⟨"ReplacementWriter$Writing", "writeGroup", "(IIII)I"⟩, 10), (⟨"ReplacementWriter$Writing", "groupFor", "(II)I"⟩, 10), (⟨"ReplacementWriter$Writing", "writeChoice", "(IIIII)I"⟩, 10), (⟨"ReplacementWriter$Writing", "partEnd", "(IIZ)I"⟩, 10)]
theorem lw_r1 : ∀ q ∈ lw_privs_1, lw_okq q := List.forall_mem_cons.mpr ⟨lw_p0, List.forall_mem_cons.mpr ⟨lw_p1, List.forall_mem_cons.mpr ⟨lw_p2, List.forall_mem_cons.mpr ⟨lw_p3, List.forall_mem_cons.mpr ⟨lw_p4, List.forall_mem_cons.mpr ⟨lw_p5, List.forall_mem_cons.mpr ⟨lw_p6, List.forall_mem_cons.mpr ⟨lw_p7, List.forall_mem_cons.mpr ⟨lw_p8, List.forall_mem_cons.mpr ⟨lw_p9, List.forall_mem_cons.mpr ⟨lw_p10, List.forall_mem_cons.mpr ⟨lw_p11, List.forall_mem_cons.mpr ⟨lw_p12, List.forall_mem_cons.mpr ⟨lw_p13, List.forall_mem_cons.mpr ⟨lw_p14, List.forall_mem_cons.mpr ⟨lw_p15, fun _ h => absurd h List.not_mem_nil⟩⟩⟩⟩⟩⟩⟩⟩⟩⟩⟩⟩⟩⟩⟩⟩
theorem lw_p16 : lw_okq (⟨"ReplacementWriter$Writing", "writeBackslash", "(II)I"⟩, 10) := ⟨⟨by decide +kernel, by decide +kernel⟩, List.mem_of_getElem? (i := 174) (by decide +kernel), List.mem_of_getElem? (i := 752) (by decide +kernel), List.mem_of_getElem? (i := 753) (by decide +kernel)⟩
theorem lw_p17 : lw_okq (⟨"ReplacementWriter$Writing", "writeQuoted", "(II)I"⟩, 10) := ⟨⟨by decide +kernel, by decide +kernel⟩, List.mem_of_getElem? (i := 174) (by decide +kernel), List.mem_of_getElem? (i := 756) (by decide +kernel), List.mem_of_getElem? (i := 757) (by decide +kernel)⟩
theorem lw_p18 : lw_okq (⟨"ReplacementWriter$Writing", "writeCharacter", "(I)I"⟩, 10) := ⟨⟨by decide +kernel, by decide +kernel⟩, List.mem_of_getElem? (i := 174) (by decide +kernel), List.mem_of_getElem? (i := 773) (by decide +kernel), List.mem_of_getElem? (i := 774) (by decide +kernel)⟩
theorem lw_p19 : lw_okq (⟨"ReplacementWriter$Escape", "found", "(II)Z"⟩, 4) := ⟨⟨by decide +kernel, by decide +kernel⟩, List.mem_of_getElem? (i := 180) (by decide +kernel), List.mem_of_getElem? (i := 784) (by decide +kernel), List.mem_of_getElem? (i := 785) (by decide +kernel)⟩
theorem lw_p20 : lw_okq (⟨"ReplacementWriter$Escape", "readControl", "(II)Z"⟩, 4) := ⟨⟨by decide +kernel, by decide +kernel⟩, List.mem_of_getElem? (i := 180) (by decide +kernel), List.mem_of_getElem? (i := 788) (by decide +kernel), List.mem_of_getElem? (i := 789) (by decide +kernel)⟩
theorem lw_p21 : lw_okq (⟨"ReplacementWriter$Escape", "readBare", "(III)Z"⟩, 4) := ⟨⟨by decide +kernel, by decide +kernel⟩, List.mem_of_getElem? (i := 180) (by decide +kernel), List.mem_of_getElem? (i := 792) (by decide +kernel), List.mem_of_getElem? (i := 793) (by decide +kernel)⟩
theorem lw_p22 : lw_okq (⟨"ReplacementWriter$Escape", "digitsEnd", "(III)I"⟩, 4) := ⟨⟨by decide +kernel, by decide +kernel⟩, List.mem_of_getElem? (i := 180) (by decide +kernel), List.mem_of_getElem? (i := 797) (by decide +kernel), List.mem_of_getElem? (i := 798) (by decide +kernel)⟩
theorem lw_p23 : lw_okq (⟨"ReplacementWriter$Escape", "valueOf", "(III)J"⟩, 4) := ⟨⟨by decide +kernel, by decide +kernel⟩, List.mem_of_getElem? (i := 180) (by decide +kernel), List.mem_of_getElem? (i := 804) (by decide +kernel), List.mem_of_getElem? (i := 805) (by decide +kernel)⟩
theorem lw_p24 : lw_okq (⟨"ReplacementWriter$Escape", "readBraced", "(III)Z"⟩, 4) := ⟨⟨by decide +kernel, by decide +kernel⟩, List.mem_of_getElem? (i := 180) (by decide +kernel), List.mem_of_getElem? (i := 808) (by decide +kernel), List.mem_of_getElem? (i := 809) (by decide +kernel)⟩
theorem lw_p25 : lw_okq (⟨"ReplacementWriterModel$Table", "table0", "()V"⟩, 6) := ⟨⟨by decide +kernel, by decide +kernel⟩, List.mem_of_getElem? (i := 871) (by decide +kernel), List.mem_of_getElem? (i := 877) (by decide +kernel), List.mem_of_getElem? (i := 878) (by decide +kernel)⟩
theorem lw_p26 : lw_okq (⟨"ReplacementWriterModel$Table", "kinds", "(III)V"⟩, 6) := ⟨⟨by decide +kernel, by decide +kernel⟩, List.mem_of_getElem? (i := 871) (by decide +kernel), List.mem_of_getElem? (i := 881) (by decide +kernel), List.mem_of_getElem? (i := 882) (by decide +kernel)⟩
theorem lw_p27 : lw_okq (⟨"ReplacementWriterModel$Table", "table1", "()V"⟩, 6) := ⟨⟨by decide +kernel, by decide +kernel⟩, List.mem_of_getElem? (i := 871) (by decide +kernel), List.mem_of_getElem? (i := 885) (by decide +kernel), List.mem_of_getElem? (i := 886) (by decide +kernel)⟩
theorem lw_p28 : lw_okq (⟨"ReplacementWriterModel$Table", "table2", "()V"⟩, 6) := ⟨⟨by decide +kernel, by decide +kernel⟩, List.mem_of_getElem? (i := 871) (by decide +kernel), List.mem_of_getElem? (i := 889) (by decide +kernel), List.mem_of_getElem? (i := 890) (by decide +kernel)⟩
theorem lw_p29 : lw_okq (⟨"ReplacementWriterModel$Table", "table3", "()V"⟩, 6) := ⟨⟨by decide +kernel, by decide +kernel⟩, List.mem_of_getElem? (i := 871) (by decide +kernel), List.mem_of_getElem? (i := 893) (by decide +kernel), List.mem_of_getElem? (i := 894) (by decide +kernel)⟩
theorem lw_p30 : lw_okq (⟨"ReplacementWriterModel", "refuse", "(IZ)Z"⟩, 12) := ⟨⟨by decide +kernel, by decide +kernel⟩, List.mem_of_getElem? (i := 865) (by decide +kernel), List.mem_of_getElem? (i := 1054) (by decide +kernel), List.mem_of_getElem? (i := 1055) (by decide +kernel)⟩
theorem lw_p31 : lw_okq (⟨"ReplacementWriterModel", "characters", "()I"⟩, 12) := ⟨⟨by decide +kernel, by decide +kernel⟩, List.mem_of_getElem? (i := 865) (by decide +kernel), List.mem_of_getElem? (i := 1071) (by decide +kernel), List.mem_of_getElem? (i := 1072) (by decide +kernel)⟩
def lw_privs_2 : List (MethodName × Nat) := [(⟨"ReplacementWriter$Writing", "writeBackslash", "(II)I"⟩, 10), (⟨"ReplacementWriter$Writing", "writeQuoted", "(II)I"⟩, 10), (⟨"ReplacementWriter$Writing", "writeCharacter", "(I)I"⟩, 10), (⟨"ReplacementWriter$Escape", "found", "(II)Z"⟩, 4), (⟨"ReplacementWriter$Escape", "readControl", "(II)Z"⟩, 4), (⟨"ReplacementWriter$Escape", "readBare", "(III)Z"⟩, 4), (⟨"ReplacementWriter$Escape", "digitsEnd", "(III)I"⟩, 4), (⟨"ReplacementWriter$Escape", "valueOf", "(III)J"⟩, 4), (⟨"ReplacementWriter$Escape", "readBraced", "(III)Z"⟩, 4), (⟨"ReplacementWriterModel$Table", "table0", "()V"⟩, 6), (⟨"ReplacementWriterModel$Table", "kinds", "(III)V"⟩, 6), (⟨"ReplacementWriterModel$Table", "table1", "()V"⟩, 6), (⟨"ReplacementWriterModel$Table", "table2", "()V"⟩, 6), (⟨"ReplacementWriterModel$Table", "table3", "()V"⟩, 6), (⟨"ReplacementWriterModel", "refuse", "(IZ)Z"⟩, 12), (⟨"ReplacementWriterModel", "characters", "()I"⟩, 12)]
theorem lw_r2 : ∀ q ∈ lw_privs_2, lw_okq q := List.forall_mem_cons.mpr ⟨lw_p16, List.forall_mem_cons.mpr ⟨lw_p17, List.forall_mem_cons.mpr ⟨lw_p18, List.forall_mem_cons.mpr ⟨lw_p19, List.forall_mem_cons.mpr ⟨lw_p20, List.forall_mem_cons.mpr ⟨lw_p21, List.forall_mem_cons.mpr ⟨lw_p22, List.forall_mem_cons.mpr ⟨lw_p23, List.forall_mem_cons.mpr ⟨lw_p24, List.forall_mem_cons.mpr ⟨lw_p25, List.forall_mem_cons.mpr ⟨lw_p26, List.forall_mem_cons.mpr ⟨lw_p27, List.forall_mem_cons.mpr ⟨lw_p28, List.forall_mem_cons.mpr ⟨lw_p29, List.forall_mem_cons.mpr ⟨lw_p30, List.forall_mem_cons.mpr ⟨lw_p31, fun _ h => absurd h List.not_mem_nil⟩⟩⟩⟩⟩⟩⟩⟩⟩⟩⟩⟩⟩⟩⟩⟩
theorem lw_p32 : lw_okq (⟨"ReplacementWriterModel", "taken", "()[I"⟩, 12) := ⟨⟨by decide +kernel, by decide +kernel⟩, List.mem_of_getElem? (i := 865) (by decide +kernel), List.mem_of_getElem? (i := 1078) (by decide +kernel), List.mem_of_getElem? (i := 1079) (by decide +kernel)⟩
theorem lw_p33 : lw_okq (⟨"ReplacementWriterModel$Template", "bytes", "(I)Z"⟩, 13) := ⟨⟨by decide +kernel, by decide +kernel⟩, List.mem_of_getElem? (i := 919) (by decide +kernel), List.mem_of_getElem? (i := 1139) (by decide +kernel), List.mem_of_getElem? (i := 1140) (by decide +kernel)⟩
theorem lw_p34 : lw_okq (⟨"ReplacementWriterModel$Template", "part", "(III)I"⟩, 13) := ⟨⟨by decide +kernel, by decide +kernel⟩, List.mem_of_getElem? (i := 919) (by decide +kernel), List.mem_of_getElem? (i := 1146) (by decide +kernel), List.mem_of_getElem? (i := 1147) (by decide +kernel)⟩
theorem lw_p35 : lw_okq (⟨"ReplacementWriterModel$Template", "dollar", "(II)I"⟩, 13) := ⟨⟨by decide +kernel, by decide +kernel⟩, List.mem_of_getElem? (i := 919) (by decide +kernel), List.mem_of_getElem? (i := 1150) (by decide +kernel), List.mem_of_getElem? (i := 1151) (by decide +kernel)⟩
theorem lw_p36 : lw_okq (⟨"ReplacementWriterModel$Template", "see", "(II)I"⟩, 13) := ⟨⟨by decide +kernel, by decide +kernel⟩, List.mem_of_getElem? (i := 919) (by decide +kernel), List.mem_of_getElem? (i := 1154) (by decide +kernel), List.mem_of_getElem? (i := 1155) (by decide +kernel)⟩
theorem lw_p37 : lw_okq (⟨"ReplacementWriterModel$Template", "cased", "(II)I"⟩, 13) := ⟨⟨by decide +kernel, by decide +kernel⟩, List.mem_of_getElem? (i := 919) (by decide +kernel), List.mem_of_getElem? (i := 1162) (by decide +kernel), List.mem_of_getElem? (i := 1163) (by decide +kernel)⟩
theorem lw_p38 : lw_okq (⟨"ReplacementWriterModel$Table", "first", "(I)I"⟩, 6) := ⟨⟨by decide +kernel, by decide +kernel⟩, List.mem_of_getElem? (i := 871) (by decide +kernel), List.mem_of_getElem? (i := 1187) (by decide +kernel), List.mem_of_getElem? (i := 1188) (by decide +kernel)⟩
theorem lw_p39 : lw_okq (⟨"ReplacementWriterModel$Table", "third", "(I)I"⟩, 6) := ⟨⟨by decide +kernel, by decide +kernel⟩, List.mem_of_getElem? (i := 871) (by decide +kernel), List.mem_of_getElem? (i := 1191) (by decide +kernel), List.mem_of_getElem? (i := 1192) (by decide +kernel)⟩
theorem lw_p40 : lw_okq (⟨"ReplacementWriterModel$Table", "pair", "(I)I"⟩, 6) := ⟨⟨by decide +kernel, by decide +kernel⟩, List.mem_of_getElem? (i := 871) (by decide +kernel), List.mem_of_getElem? (i := 1195) (by decide +kernel), List.mem_of_getElem? (i := 1196) (by decide +kernel)⟩
theorem lw_p41 : lw_okq (⟨"ReplacementWriterModel$Table", "inAny", "(III)Z"⟩, 6) := ⟨⟨by decide +kernel, by decide +kernel⟩, List.mem_of_getElem? (i := 871) (by decide +kernel), List.mem_of_getElem? (i := 1199) (by decide +kernel), List.mem_of_getElem? (i := 1200) (by decide +kernel)⟩
theorem lw_p42 : lw_okq (⟨"ReplacementWriterModel$Table", "withMate", "(I)V"⟩, 6) := ⟨⟨by decide +kernel, by decide +kernel⟩, List.mem_of_getElem? (i := 871) (by decide +kernel), List.mem_of_getElem? (i := 1203) (by decide +kernel), List.mem_of_getElem? (i := 1204) (by decide +kernel)⟩
theorem lw_p43 : lw_okq (⟨"ReplacementWriterModel$Template", "marked", "(IIZ)I"⟩, 13) := ⟨⟨by decide +kernel, by decide +kernel⟩, List.mem_of_getElem? (i := 919) (by decide +kernel), List.mem_of_getElem? (i := 1211) (by decide +kernel), List.mem_of_getElem? (i := 1212) (by decide +kernel)⟩
theorem lw_p44 : lw_okq (⟨"ReplacementWriterModel$Template", "comes", "(IILjava/lang/String;)Z"⟩, 13) := ⟨⟨by decide +kernel, by decide +kernel⟩, List.mem_of_getElem? (i := 919) (by decide +kernel), List.mem_of_getElem? (i := 1216) (by decide +kernel), List.mem_of_getElem? (i := 1217) (by decide +kernel)⟩
theorem lw_p45 : lw_okq (⟨"ReplacementWriterModel$Template", "fault", "(II)I"⟩, 13) := ⟨⟨by decide +kernel, by decide +kernel⟩, List.mem_of_getElem? (i := 919) (by decide +kernel), List.mem_of_getElem? (i := 1266) (by decide +kernel), List.mem_of_getElem? (i := 1267) (by decide +kernel)⟩
theorem lw_p46 : lw_okq (⟨"ReplacementWriterModel$Template", "plain", "(II)I"⟩, 13) := ⟨⟨by decide +kernel, by decide +kernel⟩, List.mem_of_getElem? (i := 919) (by decide +kernel), List.mem_of_getElem? (i := 1326) (by decide +kernel), List.mem_of_getElem? (i := 1327) (by decide +kernel)⟩
theorem lw_p47 : lw_okq (⟨"ReplacementWriterModel$Template", "braced", "(IIII)I"⟩, 13) := ⟨⟨by decide +kernel, by decide +kernel⟩, List.mem_of_getElem? (i := 919) (by decide +kernel), List.mem_of_getElem? (i := 1339) (by decide +kernel), List.mem_of_getElem? (i := 1340) (by decide +kernel)⟩
def lw_privs_3 : List (MethodName × Nat) := [(⟨"ReplacementWriterModel", "taken", "()[I"⟩, 12), (⟨"ReplacementWriterModel$Template", "bytes", "(I)Z"⟩, 13), (⟨"ReplacementWriterModel$Template", "part", "(III)I"⟩, 13), (⟨"ReplacementWriterModel$Template", "dollar", "(II)I"⟩, 13), (⟨"ReplacementWriterModel$Template", "see", "(II)I"⟩, 13), (⟨"ReplacementWriterModel$Template", "cased", "(II)I"⟩, 13), (⟨"ReplacementWriterModel$Table", "first", "(I)I"⟩, 6), (⟨"ReplacementWriterModel$Table", "third", "(I)I"⟩, 6), (⟨"ReplacementWriterModel$Table", "pair", "(I)I"⟩, 6), (⟨"ReplacementWriterModel$Table", "inAny", "(III)Z"⟩, 6), (⟨"ReplacementWriterModel$Table", "withMate", "(I)V"⟩, 6), (⟨"ReplacementWriterModel$Template", "marked", "(IIZ)I"⟩, 13), (⟨"ReplacementWriterModel$Template", "comes", "(IILjava/lang/String;)Z"⟩, 13), (⟨"ReplacementWriterModel$Template", "fault", "(II)I"⟩, 13), (⟨"ReplacementWriterModel$Template", "plain", "(II)I"⟩, 13), (⟨"ReplacementWriterModel$Template", "braced", "(IIII)I"⟩, 13)]
theorem lw_r3 : ∀ q ∈ lw_privs_3, lw_okq q := List.forall_mem_cons.mpr ⟨lw_p32, List.forall_mem_cons.mpr ⟨lw_p33, List.forall_mem_cons.mpr ⟨lw_p34, List.forall_mem_cons.mpr ⟨lw_p35, List.forall_mem_cons.mpr ⟨lw_p36, List.forall_mem_cons.mpr ⟨lw_p37, List.forall_mem_cons.mpr ⟨lw_p38, List.forall_mem_cons.mpr ⟨lw_p39, List.forall_mem_cons.mpr ⟨lw_p40, List.forall_mem_cons.mpr ⟨lw_p41, List.forall_mem_cons.mpr ⟨lw_p42, List.forall_mem_cons.mpr ⟨lw_p43, List.forall_mem_cons.mpr ⟨lw_p44, List.forall_mem_cons.mpr ⟨lw_p45, List.forall_mem_cons.mpr ⟨lw_p46, List.forall_mem_cons.mpr ⟨lw_p47, fun _ h => absurd h List.not_mem_nil⟩⟩⟩⟩⟩⟩⟩⟩⟩⟩⟩⟩⟩⟩⟩⟩
theorem lw_p48 : lw_okq (⟨"ReplacementWriterModel$Template", "close", "(IIZ)I"⟩, 13) := ⟨⟨by decide +kernel, by decide +kernel⟩, List.mem_of_getElem? (i := 919) (by decide +kernel), List.mem_of_getElem? (i := 1345) (by decide +kernel), List.mem_of_getElem? (i := 1346) (by decide +kernel)⟩
theorem lw_p49 : lw_okq (⟨"ReplacementWriterModel$Template", "slash", "(I)I"⟩, 13) := ⟨⟨by decide +kernel, by decide +kernel⟩, List.mem_of_getElem? (i := 919) (by decide +kernel), List.mem_of_getElem? (i := 1349) (by decide +kernel), List.mem_of_getElem? (i := 1350) (by decide +kernel)⟩
theorem lw_p50 : lw_okq (⟨"ReplacementWriterModel$Template", "character", "(II)J"⟩, 13) := ⟨⟨by decide +kernel, by decide +kernel⟩, List.mem_of_getElem? (i := 919) (by decide +kernel), List.mem_of_getElem? (i := 1354) (by decide +kernel), List.mem_of_getElem? (i := 1355) (by decide +kernel)⟩
theorem lw_p51 : lw_okq (⟨"ReplacementWriterModel$Template", "digits", "(III)J"⟩, 13) := ⟨⟨by decide +kernel, by decide +kernel⟩, List.mem_of_getElem? (i := 919) (by decide +kernel), List.mem_of_getElem? (i := 1365) (by decide +kernel), List.mem_of_getElem? (i := 1366) (by decide +kernel)⟩
theorem lw_p52 : lw_okq (⟨"ReplacementWriterModel$Template", "inBraces", "(II)J"⟩, 13) := ⟨⟨by decide +kernel, by decide +kernel⟩, List.mem_of_getElem? (i := 919) (by decide +kernel), List.mem_of_getElem? (i := 1373) (by decide +kernel), List.mem_of_getElem? (i := 1374) (by decide +kernel)⟩
def lw_privs_4 : List (MethodName × Nat) := [(⟨"ReplacementWriterModel$Template", "close", "(IIZ)I"⟩, 13), (⟨"ReplacementWriterModel$Template", "slash", "(I)I"⟩, 13), (⟨"ReplacementWriterModel$Template", "character", "(II)J"⟩, 13), (⟨"ReplacementWriterModel$Template", "digits", "(III)J"⟩, 13), (⟨"ReplacementWriterModel$Template", "inBraces", "(II)J"⟩, 13)]
theorem lw_r4 : ∀ q ∈ lw_privs_4, lw_okq q := List.forall_mem_cons.mpr ⟨lw_p48, List.forall_mem_cons.mpr ⟨lw_p49, List.forall_mem_cons.mpr ⟨lw_p50, List.forall_mem_cons.mpr ⟨lw_p51, List.forall_mem_cons.mpr ⟨lw_p52, fun _ h => absurd h List.not_mem_nil⟩⟩⟩⟩⟩
def lw_privs : List (MethodName × Nat) := lw_privs_1 ++ (lw_privs_2 ++ (lw_privs_3 ++ (lw_privs_4)))
def lw_tbl : List Cond := k2_sels lw_privs ++ tables_1
theorem lw_privs_ok : ∀ q ∈ lw_privs, lw_okq q := by
  show ∀ q ∈ lw_privs_1 ++ (lw_privs_2 ++ (lw_privs_3 ++ (lw_privs_4))), lw_okq q
  exact List.forall_mem_append.mpr ⟨lw_r1, List.forall_mem_append.mpr ⟨lw_r2, List.forall_mem_append.mpr ⟨lw_r3, lw_r4⟩⟩⟩
end
section
/-! The words of the tables: one list for every method; each word that is used, in it. Laid by mknames.py. -/
def zw : List Cond := lw_tbl.filter goodWord
theorem zw_of {w : Cond} (h : w ∈ tables_1) (g : goodWord w = true) : w ∈ zw := List.mem_filter.mpr ⟨List.mem_append_right _ h, g⟩
theorem zw_sel {w : Cond} (h : w ∈ k2_sels lw_privs) (g : goodWord w = true) : w ∈ zw := List.mem_filter.mpr ⟨List.mem_append_left _ h, g⟩
theorem zw_good : ∀ w ∈ zw, (w.onTables && w.keeps) = true ∨ ∃ ty, w = .arrayClass ty := fun w h => good_of_word (List.mem_filter.mp h).2
theorem zG {y : MethodName} {bytes : ByteArray} {maxL : Nat} {ret : Option FieldType} (h : Cond.code y bytes maxL ret ∈ zw) : GoodIn zw (Cond.code y bytes maxL ret :: zw) := fun w hw => (List.mem_cons.mp hw).elim (fun e => by subst e; exact ⟨h, zw_good _ h⟩) (fun hw => ⟨hw, zw_good _ hw⟩)
theorem zw_0 : (Jvm.Cond.initialized "ReplacementWriterLaw") ∈ zw := zw_of (List.mem_of_getElem? (i := 0) (by decide +kernel)) (by decide +kernel)
theorem zw_1 : (Jvm.Cond.initialized "ReplacementWriter") ∈ zw := zw_of (List.mem_of_getElem? (i := 1) (by decide +kernel)) (by decide +kernel)
theorem zw_2 : (Jvm.Cond.initialized "ReplacementWriter$Row") ∈ zw := zw_of (List.mem_of_getElem? (i := 2) (by decide +kernel)) (by decide +kernel)
theorem zw_3 : (Jvm.Cond.initialized "ReplacementWriter$Groups") ∈ zw := zw_of (List.mem_of_getElem? (i := 3) (by decide +kernel)) (by decide +kernel)
theorem zw_4 : (Jvm.Cond.initialized "java/util/AbstractCollection") ∈ zw := zw_of (List.mem_of_getElem? (i := 4) (by decide +kernel)) (by decide +kernel)
theorem zw_5 : (Jvm.Cond.initialized "java/util/AbstractList") ∈ zw := zw_of (List.mem_of_getElem? (i := 5) (by decide +kernel)) (by decide +kernel)
theorem zw_6 : (Jvm.Cond.initialized "java/util/ArrayList") ∈ zw := zw_of (List.mem_of_getElem? (i := 6) (by decide +kernel)) (by decide +kernel)
theorem zw_7 : (Jvm.Cond.initialized "ReplacementWriter$Encoding") ∈ zw := zw_of (List.mem_of_getElem? (i := 7) (by decide +kernel)) (by decide +kernel)
theorem zw_8 : (Jvm.Cond.initialized "ReplacementWriter$Output") ∈ zw := zw_of (List.mem_of_getElem? (i := 8) (by decide +kernel)) (by decide +kernel)
theorem zw_9 : (Jvm.Cond.initialized "ReplacementWriter$Cases") ∈ zw := zw_of (List.mem_of_getElem? (i := 9) (by decide +kernel)) (by decide +kernel)
theorem zw_10 : (Jvm.Cond.initialized "java/lang/Enum") ∈ zw := zw_of (List.mem_of_getElem? (i := 10) (by decide +kernel)) (by decide +kernel)
theorem zw_11 : (Jvm.Cond.initialized "ReplacementWriter$Turn") ∈ zw := zw_of (List.mem_of_getElem? (i := 11) (by decide +kernel)) (by decide +kernel)
theorem zw_12 : (Jvm.Cond.initialized "ReplacementWriter$Writing") ∈ zw := zw_of (List.mem_of_getElem? (i := 12) (by decide +kernel)) (by decide +kernel)
theorem zw_13 : (Jvm.Cond.initialized "ReplacementWriter$Escape") ∈ zw := zw_of (List.mem_of_getElem? (i := 13) (by decide +kernel)) (by decide +kernel)
theorem zw_14 : (Jvm.Cond.initialized "ReplacementWriterModel") ∈ zw := zw_of (List.mem_of_getElem? (i := 14) (by decide +kernel)) (by decide +kernel)
theorem zw_15 : (Jvm.Cond.initialized "ReplacementWriterModel$Table") ∈ zw := zw_of (List.mem_of_getElem? (i := 15) (by decide +kernel)) (by decide +kernel)
theorem zw_16 : (Jvm.Cond.initialized "ReplacementWriterModel$Template") ∈ zw := zw_of (List.mem_of_getElem? (i := 16) (by decide +kernel)) (by decide +kernel)
theorem zw_17 : (Jvm.Cond.initialized "ReplacementWriterModel$Holder") ∈ zw := zw_of (List.mem_of_getElem? (i := 17) (by decide +kernel)) (by decide +kernel)
theorem zw_18 : (Jvm.Cond.initialized "java/lang/Throwable") ∈ zw := zw_of (List.mem_of_getElem? (i := 18) (by decide +kernel)) (by decide +kernel)
theorem zw_19 : (Jvm.Cond.initialized "java/lang/Exception") ∈ zw := zw_of (List.mem_of_getElem? (i := 19) (by decide +kernel)) (by decide +kernel)
theorem zw_20 : (Jvm.Cond.initialized "java/lang/RuntimeException") ∈ zw := zw_of (List.mem_of_getElem? (i := 20) (by decide +kernel)) (by decide +kernel)
theorem zw_21 : (Jvm.Cond.initialized "java/lang/IllegalStateException") ∈ zw := zw_of (List.mem_of_getElem? (i := 21) (by decide +kernel)) (by decide +kernel)
theorem zw_22 : (Jvm.Cond.initialized "java/util/Arrays") ∈ zw := zw_of (List.mem_of_getElem? (i := 22) (by decide +kernel)) (by decide +kernel)
theorem zw_23 : (Jvm.Cond.initialized "java/lang/Math") ∈ zw := zw_of (List.mem_of_getElem? (i := 23) (by decide +kernel)) (by decide +kernel)
theorem zw_24 : (Jvm.Cond.initialized "java/lang/System") ∈ zw := zw_of (List.mem_of_getElem? (i := 24) (by decide +kernel)) (by decide +kernel)
theorem zw_25 : (Jvm.Cond.initialized "java/lang/IllegalArgumentException") ∈ zw := zw_of (List.mem_of_getElem? (i := 25) (by decide +kernel)) (by decide +kernel)
theorem zw_26 : (Jvm.Cond.initialized "java/lang/UnsupportedOperationException") ∈ zw := zw_of (List.mem_of_getElem? (i := 26) (by decide +kernel)) (by decide +kernel)
theorem zw_27 : (Jvm.Cond.initialized "ReplacementWriter$Ascii") ∈ zw := zw_of (List.mem_of_getElem? (i := 27) (by decide +kernel)) (by decide +kernel)
theorem zw_28 : (Jvm.Cond.initialized "java/util/Objects") ∈ zw := zw_of (List.mem_of_getElem? (i := 28) (by decide +kernel)) (by decide +kernel)
theorem zw_29 : (Jvm.Cond.initialized "jdk/internal/util/Preconditions") ∈ zw := zw_of (List.mem_of_getElem? (i := 29) (by decide +kernel)) (by decide +kernel)
theorem zw_30 : (Jvm.Cond.initialized "ReplacementWriter$Name") ∈ zw := zw_of (List.mem_of_getElem? (i := 30) (by decide +kernel)) (by decide +kernel)
theorem zw_31 : (Jvm.Cond.initialized "jdk/internal/util/ArraysSupport") ∈ zw := zw_of (List.mem_of_getElem? (i := 31) (by decide +kernel)) (by decide +kernel)
theorem zw_32 : (Jvm.Cond.initialized "java/lang/Number") ∈ zw := zw_of (List.mem_of_getElem? (i := 32) (by decide +kernel)) (by decide +kernel)
theorem zw_33 : (Jvm.Cond.initialized "java/lang/Integer") ∈ zw := zw_of (List.mem_of_getElem? (i := 33) (by decide +kernel)) (by decide +kernel)
theorem zw_34 : (Jvm.Cond.initialized "java/lang/Integer$IntegerCache") ∈ zw := zw_of (List.mem_of_getElem? (i := 34) (by decide +kernel)) (by decide +kernel)
theorem zw_35 : (Jvm.Cond.initialized "java/lang/String") ∈ zw := zw_of (List.mem_of_getElem? (i := 35) (by decide +kernel)) (by decide +kernel)
theorem zw_36 : (Jvm.Cond.initialized "java/lang/StringLatin1") ∈ zw := zw_of (List.mem_of_getElem? (i := 36) (by decide +kernel)) (by decide +kernel)
theorem zw_37 : (Jvm.Cond.initialized "java/lang/StringUTF16") ∈ zw := zw_of (List.mem_of_getElem? (i := 37) (by decide +kernel)) (by decide +kernel)
theorem zw_38 : (Jvm.Cond.initialized "java/lang/IndexOutOfBoundsException") ∈ zw := zw_of (List.mem_of_getElem? (i := 38) (by decide +kernel)) (by decide +kernel)
theorem zw_39 : (Jvm.Cond.classLink "ReplacementWriterLaw" (8 : Nat) "ReplacementWriter") ∈ zw := zw_of (List.mem_of_getElem? (i := 39) (by decide +kernel)) (by decide +kernel)
theorem zw_40 : (Jvm.Cond.instantiable "ReplacementWriter" (7 : Nat)) ∈ zw := zw_of (List.mem_of_getElem? (i := 40) (by decide +kernel)) (by decide +kernel)
theorem zw_41 : (Jvm.Cond.methodLink "ReplacementWriterLaw" (57 : Nat) ({ cls := "ReplacementWriter", name := "<init>", desc := "(I)V" } : Jvm.MethodName)) ∈ zw := zw_of (List.mem_of_getElem? (i := 41) (by decide +kernel)) (by decide +kernel)
theorem zw_42 : (Jvm.Cond.instanceMethod ({ cls := "ReplacementWriter", name := "<init>", desc := "(I)V" } : Jvm.MethodName)) ∈ zw := zw_of (List.mem_of_getElem? (i := 42) (by decide +kernel)) (by decide +kernel)
theorem zw_43 : (Jvm.Cond.code ({ cls := "ReplacementWriter", name := "<init>", desc := "(I)V" } : Jvm.MethodName) prog_1_method_1_code (3 : Nat) (Option.none : Option Jvm.ClassFile.FieldType)) ∈ zw := zw_of (List.mem_of_getElem? (i := 43) (by decide +kernel)) (by decide +kernel)
theorem zw_44 : (Jvm.Cond.methodLink "ReplacementWriter" (1 : Nat) ({ cls := "java/lang/Object", name := "<init>", desc := "()V" } : Jvm.MethodName)) ∈ zw := zw_of (List.mem_of_getElem? (i := 44) (by decide +kernel)) (by decide +kernel)
theorem zw_45 : (Jvm.Cond.instanceMethod ({ cls := "java/lang/Object", name := "<init>", desc := "()V" } : Jvm.MethodName)) ∈ zw := zw_of (List.mem_of_getElem? (i := 45) (by decide +kernel)) (by decide +kernel)
theorem zw_46 : (Jvm.Cond.code ({ cls := "java/lang/Object", name := "<init>", desc := "()V" } : Jvm.MethodName) object_method_1_code (1 : Nat) (Option.none : Option Jvm.ClassFile.FieldType)) ∈ zw := zw_of (List.mem_of_getElem? (i := 46) (by decide +kernel)) (by decide +kernel)
theorem zw_47 : (Jvm.Cond.classLink "ReplacementWriter" (7 : Nat) "ReplacementWriter$Row") ∈ zw := zw_of (List.mem_of_getElem? (i := 47) (by decide +kernel)) (by decide +kernel)
theorem zw_48 : (Jvm.Cond.instantiable "ReplacementWriter$Row" (3 : Nat)) ∈ zw := zw_of (List.mem_of_getElem? (i := 48) (by decide +kernel)) (by decide +kernel)
theorem zw_49 : (Jvm.Cond.constant "ReplacementWriter" (11 : Nat) (65536 : Int32)) ∈ zw := zw_of (List.mem_of_getElem? (i := 49) (by decide +kernel)) (by decide +kernel)
theorem zw_50 : (Jvm.Cond.methodLink "ReplacementWriter" (12 : Nat) ({ cls := "ReplacementWriter$Row", name := "<init>", desc := "(I)V" } : Jvm.MethodName)) ∈ zw := zw_of (List.mem_of_getElem? (i := 50) (by decide +kernel)) (by decide +kernel)
theorem zw_51 : (Jvm.Cond.instanceMethod ({ cls := "ReplacementWriter$Row", name := "<init>", desc := "(I)V" } : Jvm.MethodName)) ∈ zw := zw_of (List.mem_of_getElem? (i := 51) (by decide +kernel)) (by decide +kernel)
theorem zw_52 : (Jvm.Cond.code ({ cls := "ReplacementWriter$Row", name := "<init>", desc := "(I)V" } : Jvm.MethodName) prog_9_method_1_code (2 : Nat) (Option.none : Option Jvm.ClassFile.FieldType)) ∈ zw := zw_of (List.mem_of_getElem? (i := 52) (by decide +kernel)) (by decide +kernel)
theorem zw_53 : (Jvm.Cond.methodLink "ReplacementWriter$Row" (1 : Nat) ({ cls := "java/lang/Object", name := "<init>", desc := "()V" } : Jvm.MethodName)) ∈ zw := zw_of (List.mem_of_getElem? (i := 53) (by decide +kernel)) (by decide +kernel)
theorem zw_54 : (Jvm.Cond.fieldLink "ReplacementWriter$Row" (17 : Nat) "ReplacementWriter$Row" "most" "I") ∈ zw := zw_of (List.mem_of_getElem? (i := 54) (by decide +kernel)) (by decide +kernel)
theorem zw_55 : (Jvm.Cond.fieldLink "ReplacementWriter$Row" (9 : Nat) "ReplacementWriter$Row" "bytes" "[B") ∈ zw := zw_of (List.mem_of_getElem? (i := 55) (by decide +kernel)) (by decide +kernel)
theorem zw_56 : (Jvm.Cond.fieldLink "ReplacementWriter$Row" (13 : Nat) "ReplacementWriter$Row" "length" "I") ∈ zw := zw_of (List.mem_of_getElem? (i := 56) (by decide +kernel)) (by decide +kernel)
theorem zw_57 : (Jvm.Cond.laysFinal "ReplacementWriter$Row" "ReplacementWriter$Row" "most" "I") ∈ zw := zw_of (List.mem_of_getElem? (i := 57) (by decide +kernel)) (by decide +kernel)
theorem zw_59 : (Jvm.Cond.lays "ReplacementWriter$Row" "ReplacementWriter$Row" "bytes" "[B") ∈ zw := zw_of (List.mem_of_getElem? (i := 59) (by decide +kernel)) (by decide +kernel)
theorem zw_61 : (Jvm.Cond.lays "ReplacementWriter$Row" "ReplacementWriter$Row" "length" "I") ∈ zw := zw_of (List.mem_of_getElem? (i := 61) (by decide +kernel)) (by decide +kernel)
theorem zw_64 : (Jvm.Cond.arrayClass Jvm.ClassFile.FieldType.byte) ∈ zw := zw_of (List.mem_of_getElem? (i := 64) (by decide +kernel)) (by decide +kernel)
theorem zw_65 : (Jvm.Cond.classLink "ReplacementWriter" (19 : Nat) "ReplacementWriter$Groups") ∈ zw := zw_of (List.mem_of_getElem? (i := 65) (by decide +kernel)) (by decide +kernel)
theorem zw_66 : (Jvm.Cond.instantiable "ReplacementWriter$Groups" (6 : Nat)) ∈ zw := zw_of (List.mem_of_getElem? (i := 66) (by decide +kernel)) (by decide +kernel)
theorem zw_67 : (Jvm.Cond.methodLink "ReplacementWriter" (21 : Nat) ({ cls := "ReplacementWriter$Groups", name := "<init>", desc := "()V" } : Jvm.MethodName)) ∈ zw := zw_of (List.mem_of_getElem? (i := 67) (by decide +kernel)) (by decide +kernel)
theorem zw_68 : (Jvm.Cond.instanceMethod ({ cls := "ReplacementWriter$Groups", name := "<init>", desc := "()V" } : Jvm.MethodName)) ∈ zw := zw_of (List.mem_of_getElem? (i := 68) (by decide +kernel)) (by decide +kernel)
theorem zw_69 : (Jvm.Cond.code ({ cls := "ReplacementWriter$Groups", name := "<init>", desc := "()V" } : Jvm.MethodName) prog_6_method_1_code (2 : Nat) (Option.none : Option Jvm.ClassFile.FieldType)) ∈ zw := zw_of (List.mem_of_getElem? (i := 69) (by decide +kernel)) (by decide +kernel)
theorem zw_70 : (Jvm.Cond.methodLink "ReplacementWriter$Groups" (3 : Nat) ({ cls := "java/lang/Object", name := "<init>", desc := "()V" } : Jvm.MethodName)) ∈ zw := zw_of (List.mem_of_getElem? (i := 70) (by decide +kernel)) (by decide +kernel)
theorem zw_71 : (Jvm.Cond.classLink "ReplacementWriter$Groups" (9 : Nat) "ReplacementWriter$Row") ∈ zw := zw_of (List.mem_of_getElem? (i := 71) (by decide +kernel)) (by decide +kernel)
theorem zw_73 : (Jvm.Cond.classLink "ReplacementWriter$Groups" (21 : Nat) "java/util/ArrayList") ∈ zw := zw_of (List.mem_of_getElem? (i := 73) (by decide +kernel)) (by decide +kernel)
theorem zw_74 : (Jvm.Cond.instantiable "java/util/ArrayList" (3 : Nat)) ∈ zw := zw_of (List.mem_of_getElem? (i := 74) (by decide +kernel)) (by decide +kernel)
theorem zw_75 : (Jvm.Cond.methodLink "ReplacementWriter$Groups" (23 : Nat) ({ cls := "java/util/ArrayList", name := "<init>", desc := "()V" } : Jvm.MethodName)) ∈ zw := zw_of (List.mem_of_getElem? (i := 75) (by decide +kernel)) (by decide +kernel)
theorem zw_76 : (Jvm.Cond.instanceMethod ({ cls := "java/util/ArrayList", name := "<init>", desc := "()V" } : Jvm.MethodName)) ∈ zw := zw_of (List.mem_of_getElem? (i := 76) (by decide +kernel)) (by decide +kernel)
theorem zw_77 : (Jvm.Cond.code ({ cls := "java/util/ArrayList", name := "<init>", desc := "()V" } : Jvm.MethodName) prog_39_method_2_code (1 : Nat) (Option.none : Option Jvm.ClassFile.FieldType)) ∈ zw := zw_of (List.mem_of_getElem? (i := 77) (by decide +kernel)) (by decide +kernel)
theorem zw_78 : (Jvm.Cond.methodLink "java/util/ArrayList" (1 : Nat) ({ cls := "java/util/AbstractList", name := "<init>", desc := "()V" } : Jvm.MethodName)) ∈ zw := zw_of (List.mem_of_getElem? (i := 78) (by decide +kernel)) (by decide +kernel)
theorem zw_79 : (Jvm.Cond.instanceMethod ({ cls := "java/util/AbstractList", name := "<init>", desc := "()V" } : Jvm.MethodName)) ∈ zw := zw_of (List.mem_of_getElem? (i := 79) (by decide +kernel)) (by decide +kernel)
theorem zw_80 : (Jvm.Cond.code ({ cls := "java/util/AbstractList", name := "<init>", desc := "()V" } : Jvm.MethodName) prog_38_method_1_code (1 : Nat) (Option.none : Option Jvm.ClassFile.FieldType)) ∈ zw := zw_of (List.mem_of_getElem? (i := 80) (by decide +kernel)) (by decide +kernel)
theorem zw_81 : (Jvm.Cond.methodLink "java/util/AbstractList" (1 : Nat) ({ cls := "java/util/AbstractCollection", name := "<init>", desc := "()V" } : Jvm.MethodName)) ∈ zw := zw_of (List.mem_of_getElem? (i := 81) (by decide +kernel)) (by decide +kernel)
theorem zw_82 : (Jvm.Cond.instanceMethod ({ cls := "java/util/AbstractCollection", name := "<init>", desc := "()V" } : Jvm.MethodName)) ∈ zw := zw_of (List.mem_of_getElem? (i := 82) (by decide +kernel)) (by decide +kernel)
theorem zw_83 : (Jvm.Cond.code ({ cls := "java/util/AbstractCollection", name := "<init>", desc := "()V" } : Jvm.MethodName) prog_37_method_1_code (1 : Nat) (Option.none : Option Jvm.ClassFile.FieldType)) ∈ zw := zw_of (List.mem_of_getElem? (i := 83) (by decide +kernel)) (by decide +kernel)
theorem zw_84 : (Jvm.Cond.methodLink "java/util/AbstractCollection" (1 : Nat) ({ cls := "java/lang/Object", name := "<init>", desc := "()V" } : Jvm.MethodName)) ∈ zw := zw_of (List.mem_of_getElem? (i := 84) (by decide +kernel)) (by decide +kernel)
theorem zw_85 : (Jvm.Cond.fieldLink "java/util/ArrayList" (39 : Nat) "java/util/ArrayList" "DEFAULTCAPACITY_EMPTY_ELEMENTDATA" "[Ljava/lang/Object;") ∈ zw := zw_of (List.mem_of_getElem? (i := 85) (by decide +kernel)) (by decide +kernel)
theorem zw_87 : (Jvm.Cond.fieldLink "java/util/ArrayList" (9 : Nat) "java/util/ArrayList" "elementData" "[Ljava/lang/Object;") ∈ zw := zw_of (List.mem_of_getElem? (i := 87) (by decide +kernel)) (by decide +kernel)
theorem zw_88 : (Jvm.Cond.fieldLink "java/util/ArrayList" (48 : Nat) "java/util/ArrayList" "size" "I") ∈ zw := zw_of (List.mem_of_getElem? (i := 88) (by decide +kernel)) (by decide +kernel)
theorem zw_89 : (Jvm.Cond.fieldLink "java/util/AbstractList" (7 : Nat) "java/util/AbstractList" "modCount" "I") ∈ zw := zw_of (List.mem_of_getElem? (i := 89) (by decide +kernel)) (by decide +kernel)
theorem zw_90 : (Jvm.Cond.fieldLink "java/util/ArrayList" (63 : Nat) "java/util/ArrayList" "modCount" "I") ∈ zw := zw_of (List.mem_of_getElem? (i := 90) (by decide +kernel)) (by decide +kernel)
theorem zw_91 : (Jvm.Cond.sameField "java/util/ArrayList" "java/util/AbstractList" "modCount" "I") ∈ zw := zw_of (List.mem_of_getElem? (i := 91) (by decide +kernel)) (by decide +kernel)
theorem zw_92 : (Jvm.Cond.lays "java/util/ArrayList" "java/util/ArrayList" "elementData" "[Ljava/lang/Object;") ∈ zw := zw_of (List.mem_of_getElem? (i := 92) (by decide +kernel)) (by decide +kernel)
theorem zw_94 : (Jvm.Cond.lays "java/util/ArrayList" "java/util/ArrayList" "size" "I") ∈ zw := zw_of (List.mem_of_getElem? (i := 94) (by decide +kernel)) (by decide +kernel)
theorem zw_96 : (Jvm.Cond.lays "java/util/ArrayList" "java/util/AbstractList" "modCount" "I") ∈ zw := zw_of (List.mem_of_getElem? (i := 96) (by decide +kernel)) (by decide +kernel)
theorem zw_99 : (Jvm.Cond.arrayClass Jvm.ClassFile.FieldType.boolean) ∈ zw := zw_of (List.mem_of_getElem? (i := 99) (by decide +kernel)) (by decide +kernel)
theorem zw_100 : (Jvm.Cond.constant "ReplacementWriter$Groups" (28 : Nat) (65536 : Int32)) ∈ zw := zw_of (List.mem_of_getElem? (i := 100) (by decide +kernel)) (by decide +kernel)
theorem zw_101 : (Jvm.Cond.methodLink "ReplacementWriter$Groups" (29 : Nat) ({ cls := "ReplacementWriter$Row", name := "<init>", desc := "(I)V" } : Jvm.MethodName)) ∈ zw := zw_of (List.mem_of_getElem? (i := 101) (by decide +kernel)) (by decide +kernel)
theorem zw_102 : (Jvm.Cond.fieldLink "ReplacementWriter$Groups" (11 : Nat) "ReplacementWriter$Groups" "texts" "[LReplacementWriter$Row;") ∈ zw := zw_of (List.mem_of_getElem? (i := 102) (by decide +kernel)) (by decide +kernel)
theorem zw_103 : (Jvm.Cond.fieldLink "ReplacementWriter$Groups" (17 : Nat) "ReplacementWriter$Groups" "isSet" "[Z") ∈ zw := zw_of (List.mem_of_getElem? (i := 103) (by decide +kernel)) (by decide +kernel)
theorem zw_104 : (Jvm.Cond.fieldLink "ReplacementWriter$Groups" (24 : Nat) "ReplacementWriter$Groups" "names" "Ljava/util/ArrayList;") ∈ zw := zw_of (List.mem_of_getElem? (i := 104) (by decide +kernel)) (by decide +kernel)
theorem zw_105 : (Jvm.Cond.fieldLink "ReplacementWriter$Groups" (32 : Nat) "ReplacementWriter$Groups" "markText" "LReplacementWriter$Row;") ∈ zw := zw_of (List.mem_of_getElem? (i := 105) (by decide +kernel)) (by decide +kernel)
theorem zw_106 : (Jvm.Cond.fieldLink "ReplacementWriter$Groups" (36 : Nat) "ReplacementWriter$Groups" "greatest" "I") ∈ zw := zw_of (List.mem_of_getElem? (i := 106) (by decide +kernel)) (by decide +kernel)
theorem zw_107 : (Jvm.Cond.fieldLink "ReplacementWriter$Groups" (40 : Nat) "ReplacementWriter$Groups" "namesGiven" "I") ∈ zw := zw_of (List.mem_of_getElem? (i := 107) (by decide +kernel)) (by decide +kernel)
theorem zw_108 : (Jvm.Cond.laysFinal "ReplacementWriter$Groups" "ReplacementWriter$Groups" "texts" "[LReplacementWriter$Row;") ∈ zw := zw_of (List.mem_of_getElem? (i := 108) (by decide +kernel)) (by decide +kernel)
theorem zw_110 : (Jvm.Cond.laysFinal "ReplacementWriter$Groups" "ReplacementWriter$Groups" "isSet" "[Z") ∈ zw := zw_of (List.mem_of_getElem? (i := 110) (by decide +kernel)) (by decide +kernel)
theorem zw_112 : (Jvm.Cond.laysFinal "ReplacementWriter$Groups" "ReplacementWriter$Groups" "names" "Ljava/util/ArrayList;") ∈ zw := zw_of (List.mem_of_getElem? (i := 112) (by decide +kernel)) (by decide +kernel)
theorem zw_114 : (Jvm.Cond.laysFinal "ReplacementWriter$Groups" "ReplacementWriter$Groups" "markText" "LReplacementWriter$Row;") ∈ zw := zw_of (List.mem_of_getElem? (i := 114) (by decide +kernel)) (by decide +kernel)
theorem zw_116 : (Jvm.Cond.lays "ReplacementWriter$Groups" "ReplacementWriter$Groups" "greatest" "I") ∈ zw := zw_of (List.mem_of_getElem? (i := 116) (by decide +kernel)) (by decide +kernel)
theorem zw_118 : (Jvm.Cond.lays "ReplacementWriter$Groups" "ReplacementWriter$Groups" "namesGiven" "I") ∈ zw := zw_of (List.mem_of_getElem? (i := 118) (by decide +kernel)) (by decide +kernel)
theorem zw_121 : (Jvm.Cond.classLink "ReplacementWriter" (33 : Nat) "ReplacementWriter$Encoding") ∈ zw := zw_of (List.mem_of_getElem? (i := 121) (by decide +kernel)) (by decide +kernel)
theorem zw_122 : (Jvm.Cond.instantiable "ReplacementWriter$Encoding" (1 : Nat)) ∈ zw := zw_of (List.mem_of_getElem? (i := 122) (by decide +kernel)) (by decide +kernel)
theorem zw_123 : (Jvm.Cond.methodLink "ReplacementWriter" (35 : Nat) ({ cls := "ReplacementWriter$Encoding", name := "<init>", desc := "(Z)V" } : Jvm.MethodName)) ∈ zw := zw_of (List.mem_of_getElem? (i := 123) (by decide +kernel)) (by decide +kernel)
theorem zw_124 : (Jvm.Cond.instanceMethod ({ cls := "ReplacementWriter$Encoding", name := "<init>", desc := "(Z)V" } : Jvm.MethodName)) ∈ zw := zw_of (List.mem_of_getElem? (i := 124) (by decide +kernel)) (by decide +kernel)
theorem zw_125 : (Jvm.Cond.code ({ cls := "ReplacementWriter$Encoding", name := "<init>", desc := "(Z)V" } : Jvm.MethodName) prog_4_method_1_code (2 : Nat) (Option.none : Option Jvm.ClassFile.FieldType)) ∈ zw := zw_of (List.mem_of_getElem? (i := 125) (by decide +kernel)) (by decide +kernel)
theorem zw_126 : (Jvm.Cond.methodLink "ReplacementWriter$Encoding" (1 : Nat) ({ cls := "java/lang/Object", name := "<init>", desc := "()V" } : Jvm.MethodName)) ∈ zw := zw_of (List.mem_of_getElem? (i := 126) (by decide +kernel)) (by decide +kernel)
theorem zw_127 : (Jvm.Cond.fieldLink "ReplacementWriter$Encoding" (7 : Nat) "ReplacementWriter$Encoding" "utf" "Z") ∈ zw := zw_of (List.mem_of_getElem? (i := 127) (by decide +kernel)) (by decide +kernel)
theorem zw_128 : (Jvm.Cond.laysFinal "ReplacementWriter$Encoding" "ReplacementWriter$Encoding" "utf" "Z") ∈ zw := zw_of (List.mem_of_getElem? (i := 128) (by decide +kernel)) (by decide +kernel)
theorem zw_131 : (Jvm.Cond.classLink "ReplacementWriter" (42 : Nat) "ReplacementWriter$Output") ∈ zw := zw_of (List.mem_of_getElem? (i := 131) (by decide +kernel)) (by decide +kernel)
theorem zw_132 : (Jvm.Cond.instantiable "ReplacementWriter$Output" (6 : Nat)) ∈ zw := zw_of (List.mem_of_getElem? (i := 132) (by decide +kernel)) (by decide +kernel)
theorem zw_133 : (Jvm.Cond.classLink "ReplacementWriter" (44 : Nat) "ReplacementWriter$Cases") ∈ zw := zw_of (List.mem_of_getElem? (i := 133) (by decide +kernel)) (by decide +kernel)
theorem zw_134 : (Jvm.Cond.instantiable "ReplacementWriter$Cases" (1 : Nat)) ∈ zw := zw_of (List.mem_of_getElem? (i := 134) (by decide +kernel)) (by decide +kernel)
theorem zw_135 : (Jvm.Cond.methodLink "ReplacementWriter" (46 : Nat) ({ cls := "ReplacementWriter$Cases", name := "<init>", desc := "(ZZ)V" } : Jvm.MethodName)) ∈ zw := zw_of (List.mem_of_getElem? (i := 135) (by decide +kernel)) (by decide +kernel)
theorem zw_136 : (Jvm.Cond.instanceMethod ({ cls := "ReplacementWriter$Cases", name := "<init>", desc := "(ZZ)V" } : Jvm.MethodName)) ∈ zw := zw_of (List.mem_of_getElem? (i := 136) (by decide +kernel)) (by decide +kernel)
theorem zw_137 : (Jvm.Cond.code ({ cls := "ReplacementWriter$Cases", name := "<init>", desc := "(ZZ)V" } : Jvm.MethodName) prog_3_method_1_code (3 : Nat) (Option.none : Option Jvm.ClassFile.FieldType)) ∈ zw := zw_of (List.mem_of_getElem? (i := 137) (by decide +kernel)) (by decide +kernel)
theorem zw_138 : (Jvm.Cond.methodLink "ReplacementWriter$Cases" (3 : Nat) ({ cls := "java/lang/Object", name := "<init>", desc := "()V" } : Jvm.MethodName)) ∈ zw := zw_of (List.mem_of_getElem? (i := 138) (by decide +kernel)) (by decide +kernel)
theorem zw_139 : (Jvm.Cond.fieldLink "ReplacementWriter$Cases" (9 : Nat) "ReplacementWriter$Cases" "PAIRS" "[I") ∈ zw := zw_of (List.mem_of_getElem? (i := 139) (by decide +kernel)) (by decide +kernel)
theorem zw_141 : (Jvm.Cond.fieldLink "ReplacementWriter$Cases" (13 : Nat) "ReplacementWriter$Cases" "pairsEnd" "I") ∈ zw := zw_of (List.mem_of_getElem? (i := 141) (by decide +kernel)) (by decide +kernel)
theorem zw_142 : (Jvm.Cond.laysFinal "ReplacementWriter$Cases" "ReplacementWriter$Cases" "pairsEnd" "I") ∈ zw := zw_of (List.mem_of_getElem? (i := 142) (by decide +kernel)) (by decide +kernel)
theorem zw_145 : (Jvm.Cond.methodLink "ReplacementWriter" (49 : Nat) ({ cls := "ReplacementWriter$Output", name := "<init>", desc := "(LReplacementWriter$Encoding;LReplacementWriter$Cases;)V" } : Jvm.MethodName)) ∈ zw := zw_of (List.mem_of_getElem? (i := 145) (by decide +kernel)) (by decide +kernel)
theorem zw_146 : (Jvm.Cond.instanceMethod ({ cls := "ReplacementWriter$Output", name := "<init>", desc := "(LReplacementWriter$Encoding;LReplacementWriter$Cases;)V" } : Jvm.MethodName)) ∈ zw := zw_of (List.mem_of_getElem? (i := 146) (by decide +kernel)) (by decide +kernel)
theorem zw_147 : (Jvm.Cond.code ({ cls := "ReplacementWriter$Output", name := "<init>", desc := "(LReplacementWriter$Encoding;LReplacementWriter$Cases;)V" } : Jvm.MethodName) prog_8_method_1_code (3 : Nat) (Option.none : Option Jvm.ClassFile.FieldType)) ∈ zw := zw_of (List.mem_of_getElem? (i := 147) (by decide +kernel)) (by decide +kernel)
theorem zw_148 : (Jvm.Cond.methodLink "ReplacementWriter$Output" (3 : Nat) ({ cls := "java/lang/Object", name := "<init>", desc := "()V" } : Jvm.MethodName)) ∈ zw := zw_of (List.mem_of_getElem? (i := 148) (by decide +kernel)) (by decide +kernel)
theorem zw_149 : (Jvm.Cond.classLink "ReplacementWriter$Output" (9 : Nat) "ReplacementWriter$Row") ∈ zw := zw_of (List.mem_of_getElem? (i := 149) (by decide +kernel)) (by decide +kernel)
theorem zw_150 : (Jvm.Cond.constant "ReplacementWriter$Output" (11 : Nat) (262144 : Int32)) ∈ zw := zw_of (List.mem_of_getElem? (i := 150) (by decide +kernel)) (by decide +kernel)
theorem zw_151 : (Jvm.Cond.methodLink "ReplacementWriter$Output" (12 : Nat) ({ cls := "ReplacementWriter$Row", name := "<init>", desc := "(I)V" } : Jvm.MethodName)) ∈ zw := zw_of (List.mem_of_getElem? (i := 151) (by decide +kernel)) (by decide +kernel)
theorem zw_152 : (Jvm.Cond.fieldLink "ReplacementWriter$Output" (21 : Nat) "ReplacementWriter$Turn" "AS_IT_IS" "LReplacementWriter$Turn;") ∈ zw := zw_of (List.mem_of_getElem? (i := 152) (by decide +kernel)) (by decide +kernel)
theorem zw_154 : (Jvm.Cond.fieldLink "ReplacementWriter$Output" (37 : Nat) "ReplacementWriter$Output" "encoding" "LReplacementWriter$Encoding;") ∈ zw := zw_of (List.mem_of_getElem? (i := 154) (by decide +kernel)) (by decide +kernel)
theorem zw_155 : (Jvm.Cond.fieldLink "ReplacementWriter$Output" (41 : Nat) "ReplacementWriter$Output" "cases" "LReplacementWriter$Cases;") ∈ zw := zw_of (List.mem_of_getElem? (i := 155) (by decide +kernel)) (by decide +kernel)
theorem zw_156 : (Jvm.Cond.fieldLink "ReplacementWriter$Output" (15 : Nat) "ReplacementWriter$Output" "bytes" "LReplacementWriter$Row;") ∈ zw := zw_of (List.mem_of_getElem? (i := 156) (by decide +kernel)) (by decide +kernel)
theorem zw_157 : (Jvm.Cond.fieldLink "ReplacementWriter$Output" (27 : Nat) "ReplacementWriter$Output" "steadyTurn" "LReplacementWriter$Turn;") ∈ zw := zw_of (List.mem_of_getElem? (i := 157) (by decide +kernel)) (by decide +kernel)
theorem zw_158 : (Jvm.Cond.fieldLink "ReplacementWriter$Output" (30 : Nat) "ReplacementWriter$Output" "nextTurn" "LReplacementWriter$Turn;") ∈ zw := zw_of (List.mem_of_getElem? (i := 158) (by decide +kernel)) (by decide +kernel)
theorem zw_159 : (Jvm.Cond.fieldLink "ReplacementWriter$Output" (33 : Nat) "ReplacementWriter$Output" "isFull" "Z") ∈ zw := zw_of (List.mem_of_getElem? (i := 159) (by decide +kernel)) (by decide +kernel)
theorem zw_160 : (Jvm.Cond.laysFinal "ReplacementWriter$Output" "ReplacementWriter$Output" "encoding" "LReplacementWriter$Encoding;") ∈ zw := zw_of (List.mem_of_getElem? (i := 160) (by decide +kernel)) (by decide +kernel)
theorem zw_162 : (Jvm.Cond.laysFinal "ReplacementWriter$Output" "ReplacementWriter$Output" "cases" "LReplacementWriter$Cases;") ∈ zw := zw_of (List.mem_of_getElem? (i := 162) (by decide +kernel)) (by decide +kernel)
theorem zw_164 : (Jvm.Cond.laysFinal "ReplacementWriter$Output" "ReplacementWriter$Output" "bytes" "LReplacementWriter$Row;") ∈ zw := zw_of (List.mem_of_getElem? (i := 164) (by decide +kernel)) (by decide +kernel)
theorem zw_166 : (Jvm.Cond.lays "ReplacementWriter$Output" "ReplacementWriter$Output" "steadyTurn" "LReplacementWriter$Turn;") ∈ zw := zw_of (List.mem_of_getElem? (i := 166) (by decide +kernel)) (by decide +kernel)
theorem zw_168 : (Jvm.Cond.lays "ReplacementWriter$Output" "ReplacementWriter$Output" "nextTurn" "LReplacementWriter$Turn;") ∈ zw := zw_of (List.mem_of_getElem? (i := 168) (by decide +kernel)) (by decide +kernel)
theorem zw_170 : (Jvm.Cond.lays "ReplacementWriter$Output" "ReplacementWriter$Output" "isFull" "Z") ∈ zw := zw_of (List.mem_of_getElem? (i := 170) (by decide +kernel)) (by decide +kernel)
theorem zw_173 : (Jvm.Cond.classLink "ReplacementWriter" (56 : Nat) "ReplacementWriter$Writing") ∈ zw := zw_of (List.mem_of_getElem? (i := 173) (by decide +kernel)) (by decide +kernel)
theorem zw_174 : (Jvm.Cond.instantiable "ReplacementWriter$Writing" (10 : Nat)) ∈ zw := zw_of (List.mem_of_getElem? (i := 174) (by decide +kernel)) (by decide +kernel)
theorem zw_175 : (Jvm.Cond.methodLink "ReplacementWriter" (58 : Nat) ({ cls := "ReplacementWriter$Writing", name := "<init>", desc := "(LReplacementWriter$Row;LReplacementWriter$Groups;LReplacementWriter$Output;LReplacementWriter$Encoding;)V" } : Jvm.MethodName)) ∈ zw := zw_of (List.mem_of_getElem? (i := 175) (by decide +kernel)) (by decide +kernel)
theorem zw_176 : (Jvm.Cond.instanceMethod ({ cls := "ReplacementWriter$Writing", name := "<init>", desc := "(LReplacementWriter$Row;LReplacementWriter$Groups;LReplacementWriter$Output;LReplacementWriter$Encoding;)V" } : Jvm.MethodName)) ∈ zw := zw_of (List.mem_of_getElem? (i := 176) (by decide +kernel)) (by decide +kernel)
theorem zw_177 : (Jvm.Cond.code ({ cls := "ReplacementWriter$Writing", name := "<init>", desc := "(LReplacementWriter$Row;LReplacementWriter$Groups;LReplacementWriter$Output;LReplacementWriter$Encoding;)V" } : Jvm.MethodName) prog_11_method_1_code (5 : Nat) (Option.none : Option Jvm.ClassFile.FieldType)) ∈ zw := zw_of (List.mem_of_getElem? (i := 177) (by decide +kernel)) (by decide +kernel)
theorem zw_178 : (Jvm.Cond.methodLink "ReplacementWriter$Writing" (3 : Nat) ({ cls := "java/lang/Object", name := "<init>", desc := "()V" } : Jvm.MethodName)) ∈ zw := zw_of (List.mem_of_getElem? (i := 178) (by decide +kernel)) (by decide +kernel)
theorem zw_179 : (Jvm.Cond.classLink "ReplacementWriter$Writing" (44 : Nat) "ReplacementWriter$Escape") ∈ zw := zw_of (List.mem_of_getElem? (i := 179) (by decide +kernel)) (by decide +kernel)
theorem zw_180 : (Jvm.Cond.instantiable "ReplacementWriter$Escape" (4 : Nat)) ∈ zw := zw_of (List.mem_of_getElem? (i := 180) (by decide +kernel)) (by decide +kernel)
theorem zw_181 : (Jvm.Cond.methodLink "ReplacementWriter$Writing" (46 : Nat) ({ cls := "ReplacementWriter$Escape", name := "<init>", desc := "(LReplacementWriter$Row;LReplacementWriter$Encoding;)V" } : Jvm.MethodName)) ∈ zw := zw_of (List.mem_of_getElem? (i := 181) (by decide +kernel)) (by decide +kernel)
theorem zw_182 : (Jvm.Cond.instanceMethod ({ cls := "ReplacementWriter$Escape", name := "<init>", desc := "(LReplacementWriter$Row;LReplacementWriter$Encoding;)V" } : Jvm.MethodName)) ∈ zw := zw_of (List.mem_of_getElem? (i := 182) (by decide +kernel)) (by decide +kernel)
theorem zw_183 : (Jvm.Cond.code ({ cls := "ReplacementWriter$Escape", name := "<init>", desc := "(LReplacementWriter$Row;LReplacementWriter$Encoding;)V" } : Jvm.MethodName) prog_5_method_1_code (3 : Nat) (Option.none : Option Jvm.ClassFile.FieldType)) ∈ zw := zw_of (List.mem_of_getElem? (i := 183) (by decide +kernel)) (by decide +kernel)
theorem zw_184 : (Jvm.Cond.methodLink "ReplacementWriter$Escape" (1 : Nat) ({ cls := "java/lang/Object", name := "<init>", desc := "()V" } : Jvm.MethodName)) ∈ zw := zw_of (List.mem_of_getElem? (i := 184) (by decide +kernel)) (by decide +kernel)
theorem zw_185 : (Jvm.Cond.fieldLink "ReplacementWriter$Escape" (16 : Nat) "ReplacementWriter$Escape" "text" "LReplacementWriter$Row;") ∈ zw := zw_of (List.mem_of_getElem? (i := 185) (by decide +kernel)) (by decide +kernel)
theorem zw_186 : (Jvm.Cond.fieldLink "ReplacementWriter$Escape" (20 : Nat) "ReplacementWriter$Escape" "encoding" "LReplacementWriter$Encoding;") ∈ zw := zw_of (List.mem_of_getElem? (i := 186) (by decide +kernel)) (by decide +kernel)
theorem zw_187 : (Jvm.Cond.fieldLink "ReplacementWriter$Escape" (7 : Nat) "ReplacementWriter$Escape" "character" "I") ∈ zw := zw_of (List.mem_of_getElem? (i := 187) (by decide +kernel)) (by decide +kernel)
theorem zw_188 : (Jvm.Cond.fieldLink "ReplacementWriter$Escape" (13 : Nat) "ReplacementWriter$Escape" "next" "I") ∈ zw := zw_of (List.mem_of_getElem? (i := 188) (by decide +kernel)) (by decide +kernel)
theorem zw_189 : (Jvm.Cond.laysFinal "ReplacementWriter$Escape" "ReplacementWriter$Escape" "text" "LReplacementWriter$Row;") ∈ zw := zw_of (List.mem_of_getElem? (i := 189) (by decide +kernel)) (by decide +kernel)
theorem zw_191 : (Jvm.Cond.laysFinal "ReplacementWriter$Escape" "ReplacementWriter$Escape" "encoding" "LReplacementWriter$Encoding;") ∈ zw := zw_of (List.mem_of_getElem? (i := 191) (by decide +kernel)) (by decide +kernel)
theorem zw_193 : (Jvm.Cond.lays "ReplacementWriter$Escape" "ReplacementWriter$Escape" "character" "I") ∈ zw := zw_of (List.mem_of_getElem? (i := 193) (by decide +kernel)) (by decide +kernel)
theorem zw_195 : (Jvm.Cond.lays "ReplacementWriter$Escape" "ReplacementWriter$Escape" "next" "I") ∈ zw := zw_of (List.mem_of_getElem? (i := 195) (by decide +kernel)) (by decide +kernel)
theorem zw_198 : (Jvm.Cond.fieldLink "ReplacementWriter$Writing" (28 : Nat) "ReplacementWriter$Writing" "text" "LReplacementWriter$Row;") ∈ zw := zw_of (List.mem_of_getElem? (i := 198) (by decide +kernel)) (by decide +kernel)
theorem zw_199 : (Jvm.Cond.fieldLink "ReplacementWriter$Writing" (32 : Nat) "ReplacementWriter$Writing" "held" "LReplacementWriter$Groups;") ∈ zw := zw_of (List.mem_of_getElem? (i := 199) (by decide +kernel)) (by decide +kernel)
theorem zw_200 : (Jvm.Cond.fieldLink "ReplacementWriter$Writing" (36 : Nat) "ReplacementWriter$Writing" "output" "LReplacementWriter$Output;") ∈ zw := zw_of (List.mem_of_getElem? (i := 200) (by decide +kernel)) (by decide +kernel)
theorem zw_201 : (Jvm.Cond.fieldLink "ReplacementWriter$Writing" (40 : Nat) "ReplacementWriter$Writing" "encoding" "LReplacementWriter$Encoding;") ∈ zw := zw_of (List.mem_of_getElem? (i := 201) (by decide +kernel)) (by decide +kernel)
theorem zw_202 : (Jvm.Cond.fieldLink "ReplacementWriter$Writing" (49 : Nat) "ReplacementWriter$Writing" "escape" "LReplacementWriter$Escape;") ∈ zw := zw_of (List.mem_of_getElem? (i := 202) (by decide +kernel)) (by decide +kernel)
theorem zw_203 : (Jvm.Cond.fieldLink "ReplacementWriter$Writing" (9 : Nat) "ReplacementWriter$Writing" "rich" "Z") ∈ zw := zw_of (List.mem_of_getElem? (i := 203) (by decide +kernel)) (by decide +kernel)
theorem zw_204 : (Jvm.Cond.fieldLink "ReplacementWriter$Writing" (15 : Nat) "ReplacementWriter$Writing" "unsetIsEmpty" "Z") ∈ zw := zw_of (List.mem_of_getElem? (i := 204) (by decide +kernel)) (by decide +kernel)
theorem zw_205 : (Jvm.Cond.fieldLink "ReplacementWriter$Writing" (18 : Nat) "ReplacementWriter$Writing" "unknownIsUnset" "Z") ∈ zw := zw_of (List.mem_of_getElem? (i := 205) (by decide +kernel)) (by decide +kernel)
theorem zw_206 : (Jvm.Cond.fieldLink "ReplacementWriter$Writing" (21 : Nat) "ReplacementWriter$Writing" "code" "I") ∈ zw := zw_of (List.mem_of_getElem? (i := 206) (by decide +kernel)) (by decide +kernel)
theorem zw_207 : (Jvm.Cond.fieldLink "ReplacementWriter$Writing" (25 : Nat) "ReplacementWriter$Writing" "offset" "I") ∈ zw := zw_of (List.mem_of_getElem? (i := 207) (by decide +kernel)) (by decide +kernel)
theorem zw_208 : (Jvm.Cond.laysFinal "ReplacementWriter$Writing" "ReplacementWriter$Writing" "text" "LReplacementWriter$Row;") ∈ zw := zw_of (List.mem_of_getElem? (i := 208) (by decide +kernel)) (by decide +kernel)
theorem zw_210 : (Jvm.Cond.laysFinal "ReplacementWriter$Writing" "ReplacementWriter$Writing" "held" "LReplacementWriter$Groups;") ∈ zw := zw_of (List.mem_of_getElem? (i := 210) (by decide +kernel)) (by decide +kernel)
theorem zw_212 : (Jvm.Cond.laysFinal "ReplacementWriter$Writing" "ReplacementWriter$Writing" "output" "LReplacementWriter$Output;") ∈ zw := zw_of (List.mem_of_getElem? (i := 212) (by decide +kernel)) (by decide +kernel)
theorem zw_214 : (Jvm.Cond.laysFinal "ReplacementWriter$Writing" "ReplacementWriter$Writing" "encoding" "LReplacementWriter$Encoding;") ∈ zw := zw_of (List.mem_of_getElem? (i := 214) (by decide +kernel)) (by decide +kernel)
theorem zw_216 : (Jvm.Cond.laysFinal "ReplacementWriter$Writing" "ReplacementWriter$Writing" "escape" "LReplacementWriter$Escape;") ∈ zw := zw_of (List.mem_of_getElem? (i := 216) (by decide +kernel)) (by decide +kernel)
theorem zw_218 : (Jvm.Cond.lays "ReplacementWriter$Writing" "ReplacementWriter$Writing" "rich" "Z") ∈ zw := zw_of (List.mem_of_getElem? (i := 218) (by decide +kernel)) (by decide +kernel)
theorem zw_220 : (Jvm.Cond.lays "ReplacementWriter$Writing" "ReplacementWriter$Writing" "unsetIsEmpty" "Z") ∈ zw := zw_of (List.mem_of_getElem? (i := 220) (by decide +kernel)) (by decide +kernel)
theorem zw_222 : (Jvm.Cond.lays "ReplacementWriter$Writing" "ReplacementWriter$Writing" "unknownIsUnset" "Z") ∈ zw := zw_of (List.mem_of_getElem? (i := 222) (by decide +kernel)) (by decide +kernel)
theorem zw_224 : (Jvm.Cond.lays "ReplacementWriter$Writing" "ReplacementWriter$Writing" "code" "I") ∈ zw := zw_of (List.mem_of_getElem? (i := 224) (by decide +kernel)) (by decide +kernel)
theorem zw_226 : (Jvm.Cond.lays "ReplacementWriter$Writing" "ReplacementWriter$Writing" "offset" "I") ∈ zw := zw_of (List.mem_of_getElem? (i := 226) (by decide +kernel)) (by decide +kernel)
theorem zw_229 : (Jvm.Cond.fieldLink "ReplacementWriter" (38 : Nat) "ReplacementWriter" "encoding" "LReplacementWriter$Encoding;") ∈ zw := zw_of (List.mem_of_getElem? (i := 229) (by decide +kernel)) (by decide +kernel)
theorem zw_230 : (Jvm.Cond.fieldLink "ReplacementWriter" (15 : Nat) "ReplacementWriter" "text" "LReplacementWriter$Row;") ∈ zw := zw_of (List.mem_of_getElem? (i := 230) (by decide +kernel)) (by decide +kernel)
theorem zw_231 : (Jvm.Cond.fieldLink "ReplacementWriter" (22 : Nat) "ReplacementWriter" "held" "LReplacementWriter$Groups;") ∈ zw := zw_of (List.mem_of_getElem? (i := 231) (by decide +kernel)) (by decide +kernel)
theorem zw_232 : (Jvm.Cond.fieldLink "ReplacementWriter" (52 : Nat) "ReplacementWriter" "output" "LReplacementWriter$Output;") ∈ zw := zw_of (List.mem_of_getElem? (i := 232) (by decide +kernel)) (by decide +kernel)
theorem zw_233 : (Jvm.Cond.fieldLink "ReplacementWriter" (61 : Nat) "ReplacementWriter" "writing" "LReplacementWriter$Writing;") ∈ zw := zw_of (List.mem_of_getElem? (i := 233) (by decide +kernel)) (by decide +kernel)
theorem zw_234 : (Jvm.Cond.fieldLink "ReplacementWriter" (26 : Nat) "ReplacementWriter" "lastCode" "I") ∈ zw := zw_of (List.mem_of_getElem? (i := 234) (by decide +kernel)) (by decide +kernel)
theorem zw_235 : (Jvm.Cond.fieldLink "ReplacementWriter" (30 : Nat) "ReplacementWriter" "lastOffset" "I") ∈ zw := zw_of (List.mem_of_getElem? (i := 235) (by decide +kernel)) (by decide +kernel)
theorem zw_236 : (Jvm.Cond.laysFinal "ReplacementWriter" "ReplacementWriter" "encoding" "LReplacementWriter$Encoding;") ∈ zw := zw_of (List.mem_of_getElem? (i := 236) (by decide +kernel)) (by decide +kernel)
theorem zw_238 : (Jvm.Cond.laysFinal "ReplacementWriter" "ReplacementWriter" "text" "LReplacementWriter$Row;") ∈ zw := zw_of (List.mem_of_getElem? (i := 238) (by decide +kernel)) (by decide +kernel)
theorem zw_240 : (Jvm.Cond.laysFinal "ReplacementWriter" "ReplacementWriter" "held" "LReplacementWriter$Groups;") ∈ zw := zw_of (List.mem_of_getElem? (i := 240) (by decide +kernel)) (by decide +kernel)
theorem zw_242 : (Jvm.Cond.laysFinal "ReplacementWriter" "ReplacementWriter" "output" "LReplacementWriter$Output;") ∈ zw := zw_of (List.mem_of_getElem? (i := 242) (by decide +kernel)) (by decide +kernel)
theorem zw_244 : (Jvm.Cond.laysFinal "ReplacementWriter" "ReplacementWriter" "writing" "LReplacementWriter$Writing;") ∈ zw := zw_of (List.mem_of_getElem? (i := 244) (by decide +kernel)) (by decide +kernel)
theorem zw_246 : (Jvm.Cond.lays "ReplacementWriter" "ReplacementWriter" "lastCode" "I") ∈ zw := zw_of (List.mem_of_getElem? (i := 246) (by decide +kernel)) (by decide +kernel)
theorem zw_248 : (Jvm.Cond.lays "ReplacementWriter" "ReplacementWriter" "lastOffset" "I") ∈ zw := zw_of (List.mem_of_getElem? (i := 248) (by decide +kernel)) (by decide +kernel)
theorem zw_251 : (Jvm.Cond.methodLink "ReplacementWriterLaw" (99 : Nat) ({ cls := "ReplacementWriter", name := "count", desc := "(I)I" } : Jvm.MethodName)) ∈ zw := zw_of (List.mem_of_getElem? (i := 251) (by decide +kernel)) (by decide +kernel)
theorem zw_252 : (Jvm.Cond.instanceMethod ({ cls := "ReplacementWriter", name := "count", desc := "(I)I" } : Jvm.MethodName)) ∈ zw := zw_of (List.mem_of_getElem? (i := 252) (by decide +kernel)) (by decide +kernel)
theorem zw_253 : (Jvm.Cond.selects "ReplacementWriter" ({ cls := "ReplacementWriter", name := "count", desc := "(I)I" } : Jvm.MethodName) ({ cls := "ReplacementWriter", name := "count", desc := "(I)I" } : Jvm.MethodName)) ∈ zw := zw_of (List.mem_of_getElem? (i := 253) (by decide +kernel)) (by decide +kernel)
theorem zw_254 : (Jvm.Cond.code ({ cls := "ReplacementWriter", name := "count", desc := "(I)I" } : Jvm.MethodName) prog_1_method_14_code (2 : Nat) (Option.some Jvm.ClassFile.FieldType.int)) ∈ zw := zw_of (List.mem_of_getElem? (i := 254) (by decide +kernel)) (by decide +kernel)
theorem zw_255 : (Jvm.Cond.methodLink "ReplacementWriter" (65 : Nat) ({ cls := "ReplacementWriter$Row", name := "length", desc := "()I" } : Jvm.MethodName)) ∈ zw := zw_of (List.mem_of_getElem? (i := 255) (by decide +kernel)) (by decide +kernel)
theorem zw_256 : (Jvm.Cond.instanceMethod ({ cls := "ReplacementWriter$Row", name := "length", desc := "()I" } : Jvm.MethodName)) ∈ zw := zw_of (List.mem_of_getElem? (i := 256) (by decide +kernel)) (by decide +kernel)
theorem zw_257 : (Jvm.Cond.selects "ReplacementWriter$Row" ({ cls := "ReplacementWriter$Row", name := "length", desc := "()I" } : Jvm.MethodName) ({ cls := "ReplacementWriter$Row", name := "length", desc := "()I" } : Jvm.MethodName)) ∈ zw := zw_of (List.mem_of_getElem? (i := 257) (by decide +kernel)) (by decide +kernel)
theorem zw_258 : (Jvm.Cond.code ({ cls := "ReplacementWriter$Row", name := "length", desc := "()I" } : Jvm.MethodName) prog_9_method_2_code (1 : Nat) (Option.some Jvm.ClassFile.FieldType.int)) ∈ zw := zw_of (List.mem_of_getElem? (i := 258) (by decide +kernel)) (by decide +kernel)
theorem zw_259 : (Jvm.Cond.methodLink "ReplacementWriter" (146 : Nat) ({ cls := "ReplacementWriter$Output", name := "bytes", desc := "()LReplacementWriter$Row;" } : Jvm.MethodName)) ∈ zw := zw_of (List.mem_of_getElem? (i := 259) (by decide +kernel)) (by decide +kernel)
theorem zw_260 : (Jvm.Cond.instanceMethod ({ cls := "ReplacementWriter$Output", name := "bytes", desc := "()LReplacementWriter$Row;" } : Jvm.MethodName)) ∈ zw := zw_of (List.mem_of_getElem? (i := 260) (by decide +kernel)) (by decide +kernel)
theorem zw_261 : (Jvm.Cond.selects "ReplacementWriter$Output" ({ cls := "ReplacementWriter$Output", name := "bytes", desc := "()LReplacementWriter$Row;" } : Jvm.MethodName) ({ cls := "ReplacementWriter$Output", name := "bytes", desc := "()LReplacementWriter$Row;" } : Jvm.MethodName)) ∈ zw := zw_of (List.mem_of_getElem? (i := 261) (by decide +kernel)) (by decide +kernel)
theorem zw_262 : (Jvm.Cond.code ({ cls := "ReplacementWriter$Output", name := "bytes", desc := "()LReplacementWriter$Row;" } : Jvm.MethodName) prog_8_method_3_code (1 : Nat) (Option.some (Jvm.ClassFile.FieldType.object "ReplacementWriter$Row"))) ∈ zw := zw_of (List.mem_of_getElem? (i := 262) (by decide +kernel)) (by decide +kernel)
theorem zw_263 : (Jvm.Cond.methodLink "ReplacementWriter" (157 : Nat) ({ cls := "ReplacementWriter$Groups", name := "greatest", desc := "()I" } : Jvm.MethodName)) ∈ zw := zw_of (List.mem_of_getElem? (i := 263) (by decide +kernel)) (by decide +kernel)
theorem zw_264 : (Jvm.Cond.instanceMethod ({ cls := "ReplacementWriter$Groups", name := "greatest", desc := "()I" } : Jvm.MethodName)) ∈ zw := zw_of (List.mem_of_getElem? (i := 264) (by decide +kernel)) (by decide +kernel)
theorem zw_265 : (Jvm.Cond.selects "ReplacementWriter$Groups" ({ cls := "ReplacementWriter$Groups", name := "greatest", desc := "()I" } : Jvm.MethodName) ({ cls := "ReplacementWriter$Groups", name := "greatest", desc := "()I" } : Jvm.MethodName)) ∈ zw := zw_of (List.mem_of_getElem? (i := 265) (by decide +kernel)) (by decide +kernel)
theorem zw_266 : (Jvm.Cond.code ({ cls := "ReplacementWriter$Groups", name := "greatest", desc := "()I" } : Jvm.MethodName) prog_6_method_3_code (1 : Nat) (Option.some Jvm.ClassFile.FieldType.int)) ∈ zw := zw_of (List.mem_of_getElem? (i := 266) (by decide +kernel)) (by decide +kernel)
theorem zw_267 : (Jvm.Cond.methodLink "ReplacementWriter" (115 : Nat) ({ cls := "ReplacementWriter$Groups", name := "namesGiven", desc := "()I" } : Jvm.MethodName)) ∈ zw := zw_of (List.mem_of_getElem? (i := 267) (by decide +kernel)) (by decide +kernel)
theorem zw_268 : (Jvm.Cond.instanceMethod ({ cls := "ReplacementWriter$Groups", name := "namesGiven", desc := "()I" } : Jvm.MethodName)) ∈ zw := zw_of (List.mem_of_getElem? (i := 268) (by decide +kernel)) (by decide +kernel)
theorem zw_269 : (Jvm.Cond.selects "ReplacementWriter$Groups" ({ cls := "ReplacementWriter$Groups", name := "namesGiven", desc := "()I" } : Jvm.MethodName) ({ cls := "ReplacementWriter$Groups", name := "namesGiven", desc := "()I" } : Jvm.MethodName)) ∈ zw := zw_of (List.mem_of_getElem? (i := 269) (by decide +kernel)) (by decide +kernel)
theorem zw_270 : (Jvm.Cond.code ({ cls := "ReplacementWriter$Groups", name := "namesGiven", desc := "()I" } : Jvm.MethodName) prog_6_method_4_code (1 : Nat) (Option.some Jvm.ClassFile.FieldType.int)) ∈ zw := zw_of (List.mem_of_getElem? (i := 270) (by decide +kernel)) (by decide +kernel)
theorem zw_271 : (Jvm.Cond.methodLink "ReplacementWriterLaw" (51 : Nat) ({ cls := "ReplacementWriterLaw", name := "cell", desc := "([II)I" } : Jvm.MethodName)) ∈ zw := zw_of (List.mem_of_getElem? (i := 271) (by decide +kernel)) (by decide +kernel)
theorem zw_272 : (Jvm.Cond.static ({ cls := "ReplacementWriterLaw", name := "cell", desc := "([II)I" } : Jvm.MethodName)) ∈ zw := zw_of (List.mem_of_getElem? (i := 272) (by decide +kernel)) (by decide +kernel)
theorem zw_273 : (Jvm.Cond.code ({ cls := "ReplacementWriterLaw", name := "cell", desc := "([II)I" } : Jvm.MethodName) method_2_code (2 : Nat) (Option.some Jvm.ClassFile.FieldType.int)) ∈ zw := zw_of (List.mem_of_getElem? (i := 273) (by decide +kernel)) (by decide +kernel)
theorem zw_274 : (Jvm.Cond.methodLink "ReplacementWriterLaw" (62 : Nat) ({ cls := "ReplacementWriterLaw", name := "feed", desc := "(LReplacementWriter;IIIII[J)I" } : Jvm.MethodName)) ∈ zw := zw_of (List.mem_of_getElem? (i := 274) (by decide +kernel)) (by decide +kernel)
theorem zw_275 : (Jvm.Cond.static ({ cls := "ReplacementWriterLaw", name := "feed", desc := "(LReplacementWriter;IIIII[J)I" } : Jvm.MethodName)) ∈ zw := zw_of (List.mem_of_getElem? (i := 275) (by decide +kernel)) (by decide +kernel)
theorem zw_277 : (Jvm.Cond.classLink "ReplacementWriterLaw" (13 : Nat) "java/lang/IllegalStateException") ∈ zw := zw_of (List.mem_of_getElem? (i := 277) (by decide +kernel)) (by decide +kernel)
theorem zw_278 : (Jvm.Cond.methodLink "ReplacementWriterLaw" (7 : Nat) ({ cls := "ReplacementWriter", name := "feed", desc := "(IIIII)I" } : Jvm.MethodName)) ∈ zw := zw_of (List.mem_of_getElem? (i := 278) (by decide +kernel)) (by decide +kernel)
theorem zw_279 : (Jvm.Cond.instanceMethod ({ cls := "ReplacementWriter", name := "feed", desc := "(IIIII)I" } : Jvm.MethodName)) ∈ zw := zw_of (List.mem_of_getElem? (i := 279) (by decide +kernel)) (by decide +kernel)
theorem zw_280 : (Jvm.Cond.selects "ReplacementWriter" ({ cls := "ReplacementWriter", name := "feed", desc := "(IIIII)I" } : Jvm.MethodName) ({ cls := "ReplacementWriter", name := "feed", desc := "(IIIII)I" } : Jvm.MethodName)) ∈ zw := zw_of (List.mem_of_getElem? (i := 280) (by decide +kernel)) (by decide +kernel)
theorem zw_281 : (Jvm.Cond.code ({ cls := "ReplacementWriter", name := "feed", desc := "(IIIII)I" } : Jvm.MethodName) prog_1_method_2_code (6 : Nat) (Option.some Jvm.ClassFile.FieldType.int)) ∈ zw := zw_of (List.mem_of_getElem? (i := 281) (by decide +kernel)) (by decide +kernel)
theorem zw_282 : (Jvm.Cond.classLink "ReplacementWriter" (69 : Nat) "java/lang/IllegalStateException") ∈ zw := zw_of (List.mem_of_getElem? (i := 282) (by decide +kernel)) (by decide +kernel)
theorem zw_283 : (Jvm.Cond.instantiable "java/lang/IllegalStateException" (6 : Nat)) ∈ zw := zw_of (List.mem_of_getElem? (i := 283) (by decide +kernel)) (by decide +kernel)
theorem zw_291 : (Jvm.Cond.selects "java/lang/IllegalStateException" ({ cls := "java/lang/Throwable", name := "fillInStackTrace", desc := "(I)Ljava/lang/Throwable;" } : Jvm.MethodName) ({ cls := "java/lang/Throwable", name := "fillInStackTrace", desc := "(I)Ljava/lang/Throwable;" } : Jvm.MethodName)) ∈ zw := zw_of (List.mem_of_getElem? (i := 291) (by decide +kernel)) (by decide +kernel)
theorem zw_292 : (Jvm.Cond.selects "java/lang/IllegalStateException" ({ cls := "java/lang/Throwable", name := "fillInStackTrace", desc := "()Ljava/lang/Throwable;" } : Jvm.MethodName) ({ cls := "java/lang/Throwable", name := "fillInStackTrace", desc := "()Ljava/lang/Throwable;" } : Jvm.MethodName)) ∈ zw := zw_of (List.mem_of_getElem? (i := 292) (by decide +kernel)) (by decide +kernel)
theorem zw_293 : (Jvm.Cond.lays "java/lang/IllegalStateException" "java/lang/Throwable" "cause" "Ljava/lang/Throwable;") ∈ zw := zw_of (List.mem_of_getElem? (i := 293) (by decide +kernel)) (by decide +kernel)
theorem zw_294 : (Jvm.Cond.lays "java/lang/Throwable" "java/lang/Throwable" "cause" "Ljava/lang/Throwable;") ∈ zw := zw_of (List.mem_of_getElem? (i := 294) (by decide +kernel)) (by decide +kernel)
theorem zw_295 : (Jvm.Cond.lays "java/lang/IllegalStateException" "java/lang/Throwable" "stackTrace" "[Ljava/lang/StackTraceElement;") ∈ zw := zw_of (List.mem_of_getElem? (i := 295) (by decide +kernel)) (by decide +kernel)
theorem zw_296 : (Jvm.Cond.lays "java/lang/Throwable" "java/lang/Throwable" "stackTrace" "[Ljava/lang/StackTraceElement;") ∈ zw := zw_of (List.mem_of_getElem? (i := 296) (by decide +kernel)) (by decide +kernel)
theorem zw_297 : (Jvm.Cond.lays "java/lang/IllegalStateException" "java/lang/Throwable" "suppressedExceptions" "Ljava/util/List;") ∈ zw := zw_of (List.mem_of_getElem? (i := 297) (by decide +kernel)) (by decide +kernel)
theorem zw_298 : (Jvm.Cond.lays "java/lang/Throwable" "java/lang/Throwable" "suppressedExceptions" "Ljava/util/List;") ∈ zw := zw_of (List.mem_of_getElem? (i := 298) (by decide +kernel)) (by decide +kernel)
theorem zw_299 : (Jvm.Cond.lays "java/lang/IllegalStateException" "java/lang/Throwable" "detailMessage" "Ljava/lang/String;") ∈ zw := zw_of (List.mem_of_getElem? (i := 299) (by decide +kernel)) (by decide +kernel)
theorem zw_300 : (Jvm.Cond.lays "java/lang/Throwable" "java/lang/Throwable" "detailMessage" "Ljava/lang/String;") ∈ zw := zw_of (List.mem_of_getElem? (i := 300) (by decide +kernel)) (by decide +kernel)
theorem zw_301 : (Jvm.Cond.lays "java/lang/IllegalStateException" "java/lang/Throwable" "backtrace" "Ljava/lang/Object;") ∈ zw := zw_of (List.mem_of_getElem? (i := 301) (by decide +kernel)) (by decide +kernel)
theorem zw_302 : (Jvm.Cond.lays "java/lang/Throwable" "java/lang/Throwable" "backtrace" "Ljava/lang/Object;") ∈ zw := zw_of (List.mem_of_getElem? (i := 302) (by decide +kernel)) (by decide +kernel)
theorem zw_303 : (Jvm.Cond.fieldLink "java/lang/Throwable" (198 : Nat) "java/lang/Throwable" "backtrace" "Ljava/lang/Object;") ∈ zw := zw_of (List.mem_of_getElem? (i := 303) (by decide +kernel)) (by decide +kernel)
theorem zw_305 : (Jvm.Cond.instanceMethod ({ cls := "java/lang/Throwable", name := "<init>", desc := "()V" } : Jvm.MethodName)) ∈ zw := zw_of (List.mem_of_getElem? (i := 305) (by decide +kernel)) (by decide +kernel)
theorem zw_306 : (Jvm.Cond.code ({ cls := "java/lang/Throwable", name := "<init>", desc := "()V" } : Jvm.MethodName) prog_35_method_1_code (1 : Nat) (Option.none : Option Jvm.ClassFile.FieldType)) ∈ zw := zw_of (List.mem_of_getElem? (i := 306) (by decide +kernel)) (by decide +kernel)
theorem zw_307 : (Jvm.Cond.methodLink "java/lang/Throwable" (1 : Nat) ({ cls := "java/lang/Object", name := "<init>", desc := "()V" } : Jvm.MethodName)) ∈ zw := zw_of (List.mem_of_getElem? (i := 307) (by decide +kernel)) (by decide +kernel)
theorem zw_308 : (Jvm.Cond.fieldLink "java/lang/Throwable" (13 : Nat) "java/lang/Throwable" "UNASSIGNED_STACK" "[Ljava/lang/StackTraceElement;") ∈ zw := zw_of (List.mem_of_getElem? (i := 308) (by decide +kernel)) (by decide +kernel)
theorem zw_310 : (Jvm.Cond.fieldLink "java/lang/Throwable" (20 : Nat) "java/lang/Throwable" "SUPPRESSED_SENTINEL" "Ljava/util/List;") ∈ zw := zw_of (List.mem_of_getElem? (i := 310) (by decide +kernel)) (by decide +kernel)
theorem zw_312 : (Jvm.Cond.methodLink "java/lang/Throwable" (27 : Nat) ({ cls := "java/lang/Throwable", name := "fillInStackTrace", desc := "()Ljava/lang/Throwable;" } : Jvm.MethodName)) ∈ zw := zw_of (List.mem_of_getElem? (i := 312) (by decide +kernel)) (by decide +kernel)
theorem zw_313 : (Jvm.Cond.instanceMethod ({ cls := "java/lang/Throwable", name := "fillInStackTrace", desc := "()Ljava/lang/Throwable;" } : Jvm.MethodName)) ∈ zw := zw_of (List.mem_of_getElem? (i := 313) (by decide +kernel)) (by decide +kernel)
theorem zw_315 : (Jvm.Cond.selects "java/lang/IllegalArgumentException" ({ cls := "java/lang/Throwable", name := "fillInStackTrace", desc := "()Ljava/lang/Throwable;" } : Jvm.MethodName) ({ cls := "java/lang/Throwable", name := "fillInStackTrace", desc := "()Ljava/lang/Throwable;" } : Jvm.MethodName)) ∈ zw := zw_of (List.mem_of_getElem? (i := 315) (by decide +kernel)) (by decide +kernel)
theorem zw_316 : (Jvm.Cond.selects "java/lang/IndexOutOfBoundsException" ({ cls := "java/lang/Throwable", name := "fillInStackTrace", desc := "()Ljava/lang/Throwable;" } : Jvm.MethodName) ({ cls := "java/lang/Throwable", name := "fillInStackTrace", desc := "()Ljava/lang/Throwable;" } : Jvm.MethodName)) ∈ zw := zw_of (List.mem_of_getElem? (i := 316) (by decide +kernel)) (by decide +kernel)
theorem zw_317 : (Jvm.Cond.selects "java/lang/UnsupportedOperationException" ({ cls := "java/lang/Throwable", name := "fillInStackTrace", desc := "()Ljava/lang/Throwable;" } : Jvm.MethodName) ({ cls := "java/lang/Throwable", name := "fillInStackTrace", desc := "()Ljava/lang/Throwable;" } : Jvm.MethodName)) ∈ zw := zw_of (List.mem_of_getElem? (i := 317) (by decide +kernel)) (by decide +kernel)
theorem zw_319 : (Jvm.Cond.methodLink "java/lang/Throwable" (202 : Nat) ({ cls := "java/lang/Throwable", name := "fillInStackTrace", desc := "(I)Ljava/lang/Throwable;" } : Jvm.MethodName)) ∈ zw := zw_of (List.mem_of_getElem? (i := 319) (by decide +kernel)) (by decide +kernel)
theorem zw_321 : (Jvm.Cond.instanceMethod ({ cls := "java/lang/Throwable", name := "fillInStackTrace", desc := "(I)Ljava/lang/Throwable;" } : Jvm.MethodName)) ∈ zw := zw_of (List.mem_of_getElem? (i := 321) (by decide +kernel)) (by decide +kernel)
theorem zw_322 : (Jvm.Cond.instantiable "java/lang/Throwable" (6 : Nat)) ∈ zw := zw_of (List.mem_of_getElem? (i := 322) (by decide +kernel)) (by decide +kernel)
theorem zw_324 : (Jvm.Cond.methodLink "ReplacementWriter" (71 : Nat) ({ cls := "java/lang/IllegalStateException", name := "<init>", desc := "()V" } : Jvm.MethodName)) ∈ zw := zw_of (List.mem_of_getElem? (i := 324) (by decide +kernel)) (by decide +kernel)
theorem zw_325 : (Jvm.Cond.instanceMethod ({ cls := "java/lang/IllegalStateException", name := "<init>", desc := "()V" } : Jvm.MethodName)) ∈ zw := zw_of (List.mem_of_getElem? (i := 325) (by decide +kernel)) (by decide +kernel)
theorem zw_326 : (Jvm.Cond.code ({ cls := "java/lang/IllegalStateException", name := "<init>", desc := "()V" } : Jvm.MethodName) prog_23_method_1_code (1 : Nat) (Option.none : Option Jvm.ClassFile.FieldType)) ∈ zw := zw_of (List.mem_of_getElem? (i := 326) (by decide +kernel)) (by decide +kernel)
theorem zw_327 : (Jvm.Cond.methodLink "java/lang/IllegalStateException" (1 : Nat) ({ cls := "java/lang/RuntimeException", name := "<init>", desc := "()V" } : Jvm.MethodName)) ∈ zw := zw_of (List.mem_of_getElem? (i := 327) (by decide +kernel)) (by decide +kernel)
theorem zw_328 : (Jvm.Cond.instanceMethod ({ cls := "java/lang/RuntimeException", name := "<init>", desc := "()V" } : Jvm.MethodName)) ∈ zw := zw_of (List.mem_of_getElem? (i := 328) (by decide +kernel)) (by decide +kernel)
theorem zw_329 : (Jvm.Cond.code ({ cls := "java/lang/RuntimeException", name := "<init>", desc := "()V" } : Jvm.MethodName) prog_30_method_1_code (1 : Nat) (Option.none : Option Jvm.ClassFile.FieldType)) ∈ zw := zw_of (List.mem_of_getElem? (i := 329) (by decide +kernel)) (by decide +kernel)
theorem zw_330 : (Jvm.Cond.methodLink "java/lang/RuntimeException" (1 : Nat) ({ cls := "java/lang/Exception", name := "<init>", desc := "()V" } : Jvm.MethodName)) ∈ zw := zw_of (List.mem_of_getElem? (i := 330) (by decide +kernel)) (by decide +kernel)
theorem zw_331 : (Jvm.Cond.instanceMethod ({ cls := "java/lang/Exception", name := "<init>", desc := "()V" } : Jvm.MethodName)) ∈ zw := zw_of (List.mem_of_getElem? (i := 331) (by decide +kernel)) (by decide +kernel)
theorem zw_332 : (Jvm.Cond.code ({ cls := "java/lang/Exception", name := "<init>", desc := "()V" } : Jvm.MethodName) prog_21_method_1_code (1 : Nat) (Option.none : Option Jvm.ClassFile.FieldType)) ∈ zw := zw_of (List.mem_of_getElem? (i := 332) (by decide +kernel)) (by decide +kernel)
theorem zw_333 : (Jvm.Cond.methodLink "java/lang/Exception" (1 : Nat) ({ cls := "java/lang/Throwable", name := "<init>", desc := "()V" } : Jvm.MethodName)) ∈ zw := zw_of (List.mem_of_getElem? (i := 333) (by decide +kernel)) (by decide +kernel)
theorem zw_335 : (Jvm.Cond.fieldLink "java/lang/Throwable" (7 : Nat) "java/lang/Throwable" "cause" "Ljava/lang/Throwable;") ∈ zw := zw_of (List.mem_of_getElem? (i := 335) (by decide +kernel)) (by decide +kernel)
theorem zw_336 : (Jvm.Cond.fieldLink "java/lang/Throwable" (17 : Nat) "java/lang/Throwable" "stackTrace" "[Ljava/lang/StackTraceElement;") ∈ zw := zw_of (List.mem_of_getElem? (i := 336) (by decide +kernel)) (by decide +kernel)
theorem zw_337 : (Jvm.Cond.fieldLink "java/lang/Throwable" (24 : Nat) "java/lang/Throwable" "suppressedExceptions" "Ljava/util/List;") ∈ zw := zw_of (List.mem_of_getElem? (i := 337) (by decide +kernel)) (by decide +kernel)
theorem zw_342 : (Jvm.Cond.lays "java/lang/IllegalStateException" "java/lang/Throwable" "depth" "I") ∈ zw := zw_of (List.mem_of_getElem? (i := 342) (by decide +kernel)) (by decide +kernel)
theorem zw_346 : (Jvm.Cond.methodLink "ReplacementWriter" (72 : Nat) ({ cls := "ReplacementWriter", name := "addFourBytes", desc := "(I)V" } : Jvm.MethodName)) ∈ zw := zw_of (List.mem_of_getElem? (i := 346) (by decide +kernel)) (by decide +kernel)
theorem zw_348 : (Jvm.Cond.instanceMethod ({ cls := "ReplacementWriter", name := "addFourBytes", desc := "(I)V" } : Jvm.MethodName)) ∈ zw := zw_of (List.mem_of_getElem? (i := 348) (by decide +kernel)) (by decide +kernel)
theorem zw_349 : (Jvm.Cond.code ({ cls := "ReplacementWriter", name := "addFourBytes", desc := "(I)V" } : Jvm.MethodName) prog_1_method_3_code (2 : Nat) (Option.none : Option Jvm.ClassFile.FieldType)) ∈ zw := zw_of (List.mem_of_getElem? (i := 349) (by decide +kernel)) (by decide +kernel)
theorem zw_350 : (Jvm.Cond.methodLink "ReplacementWriter" (75 : Nat) ({ cls := "ReplacementWriter$Row", name := "add", desc := "(I)V" } : Jvm.MethodName)) ∈ zw := zw_of (List.mem_of_getElem? (i := 350) (by decide +kernel)) (by decide +kernel)
theorem zw_351 : (Jvm.Cond.instanceMethod ({ cls := "ReplacementWriter$Row", name := "add", desc := "(I)V" } : Jvm.MethodName)) ∈ zw := zw_of (List.mem_of_getElem? (i := 351) (by decide +kernel)) (by decide +kernel)
theorem zw_352 : (Jvm.Cond.selects "ReplacementWriter$Row" ({ cls := "ReplacementWriter$Row", name := "add", desc := "(I)V" } : Jvm.MethodName) ({ cls := "ReplacementWriter$Row", name := "add", desc := "(I)V" } : Jvm.MethodName)) ∈ zw := zw_of (List.mem_of_getElem? (i := 352) (by decide +kernel)) (by decide +kernel)
theorem zw_353 : (Jvm.Cond.code ({ cls := "ReplacementWriter$Row", name := "add", desc := "(I)V" } : Jvm.MethodName) prog_9_method_4_code (2 : Nat) (Option.none : Option Jvm.ClassFile.FieldType)) ∈ zw := zw_of (List.mem_of_getElem? (i := 353) (by decide +kernel)) (by decide +kernel)
theorem zw_354 : (Jvm.Cond.methodLink "ReplacementWriter$Row" (20 : Nat) ({ cls := "java/util/Arrays", name := "copyOf", desc := "([BI)[B" } : Jvm.MethodName)) ∈ zw := zw_of (List.mem_of_getElem? (i := 354) (by decide +kernel)) (by decide +kernel)
theorem zw_355 : (Jvm.Cond.static ({ cls := "java/util/Arrays", name := "copyOf", desc := "([BI)[B" } : Jvm.MethodName)) ∈ zw := zw_of (List.mem_of_getElem? (i := 355) (by decide +kernel)) (by decide +kernel)
theorem zw_356 : (Jvm.Cond.code ({ cls := "java/util/Arrays", name := "copyOf", desc := "([BI)[B" } : Jvm.MethodName) prog_40_method_121_code (3 : Nat) (Option.some (Jvm.ClassFile.FieldType.array Jvm.ClassFile.FieldType.byte))) ∈ zw := zw_of (List.mem_of_getElem? (i := 356) (by decide +kernel)) (by decide +kernel)
theorem zw_357 : (Jvm.Cond.methodLink "java/util/Arrays" (310 : Nat) ({ cls := "[B", name := "clone", desc := "()Ljava/lang/Object;" } : Jvm.MethodName)) ∈ zw := zw_of (List.mem_of_getElem? (i := 357) (by decide +kernel)) (by decide +kernel)
theorem zw_360 : (Jvm.Cond.instanceMethod ({ cls := "java/lang/Object", name := "clone", desc := "()Ljava/lang/Object;" } : Jvm.MethodName)) ∈ zw := zw_of (List.mem_of_getElem? (i := 360) (by decide +kernel)) (by decide +kernel)
theorem zw_361 : (Jvm.Cond.selects "[B" ({ cls := "[B", name := "clone", desc := "()Ljava/lang/Object;" } : Jvm.MethodName) ({ cls := "java/lang/Object", name := "clone", desc := "()Ljava/lang/Object;" } : Jvm.MethodName)) ∈ zw := zw_of (List.mem_of_getElem? (i := 361) (by decide +kernel)) (by decide +kernel)
theorem zw_363 : (Jvm.Cond.classLink "java/util/Arrays" (311 : Nat) "[B") ∈ zw := zw_of (List.mem_of_getElem? (i := 363) (by decide +kernel)) (by decide +kernel)
theorem zw_364 : (Jvm.Cond.methodLink "java/util/Arrays" (304 : Nat) ({ cls := "java/lang/Math", name := "min", desc := "(II)I" } : Jvm.MethodName)) ∈ zw := zw_of (List.mem_of_getElem? (i := 364) (by decide +kernel)) (by decide +kernel)
theorem zw_365 : (Jvm.Cond.static ({ cls := "java/lang/Math", name := "min", desc := "(II)I" } : Jvm.MethodName)) ∈ zw := zw_of (List.mem_of_getElem? (i := 365) (by decide +kernel)) (by decide +kernel)
theorem zw_366 : (Jvm.Cond.code ({ cls := "java/lang/Math", name := "min", desc := "(II)I" } : Jvm.MethodName) prog_28_method_69_code (2 : Nat) (Option.some Jvm.ClassFile.FieldType.int)) ∈ zw := zw_of (List.mem_of_getElem? (i := 366) (by decide +kernel)) (by decide +kernel)
theorem zw_367 : (Jvm.Cond.methodLink "java/util/Arrays" (150 : Nat) ({ cls := "java/lang/System", name := "arraycopy", desc := "(Ljava/lang/Object;ILjava/lang/Object;II)V" } : Jvm.MethodName)) ∈ zw := zw_of (List.mem_of_getElem? (i := 367) (by decide +kernel)) (by decide +kernel)
theorem zw_368 : (Jvm.Cond.static ({ cls := "java/lang/System", name := "arraycopy", desc := "(Ljava/lang/Object;ILjava/lang/Object;II)V" } : Jvm.MethodName)) ∈ zw := zw_of (List.mem_of_getElem? (i := 368) (by decide +kernel)) (by decide +kernel)
theorem zw_370 : (Jvm.Cond.methodLink "ReplacementWriterLaw" (69 : Nat) ({ cls := "ReplacementWriterLaw", name := "end", desc := "(LReplacementWriter;I[J)I" } : Jvm.MethodName)) ∈ zw := zw_of (List.mem_of_getElem? (i := 370) (by decide +kernel)) (by decide +kernel)
theorem zw_371 : (Jvm.Cond.static ({ cls := "ReplacementWriterLaw", name := "end", desc := "(LReplacementWriter;I[J)I" } : Jvm.MethodName)) ∈ zw := zw_of (List.mem_of_getElem? (i := 371) (by decide +kernel)) (by decide +kernel)
theorem zw_373 : (Jvm.Cond.classLink "ReplacementWriterLaw" (19 : Nat) "java/lang/IllegalArgumentException") ∈ zw := zw_of (List.mem_of_getElem? (i := 373) (by decide +kernel)) (by decide +kernel)
theorem zw_374 : (Jvm.Cond.methodLink "ReplacementWriterLaw" (15 : Nat) ({ cls := "ReplacementWriter", name := "end", desc := "(I)I" } : Jvm.MethodName)) ∈ zw := zw_of (List.mem_of_getElem? (i := 374) (by decide +kernel)) (by decide +kernel)
theorem zw_375 : (Jvm.Cond.instanceMethod ({ cls := "ReplacementWriter", name := "end", desc := "(I)I" } : Jvm.MethodName)) ∈ zw := zw_of (List.mem_of_getElem? (i := 375) (by decide +kernel)) (by decide +kernel)
theorem zw_376 : (Jvm.Cond.selects "ReplacementWriter" ({ cls := "ReplacementWriter", name := "end", desc := "(I)I" } : Jvm.MethodName) ({ cls := "ReplacementWriter", name := "end", desc := "(I)I" } : Jvm.MethodName)) ∈ zw := zw_of (List.mem_of_getElem? (i := 376) (by decide +kernel)) (by decide +kernel)
theorem zw_377 : (Jvm.Cond.code ({ cls := "ReplacementWriter", name := "end", desc := "(I)I" } : Jvm.MethodName) prog_1_method_4_code (2 : Nat) (Option.some Jvm.ClassFile.FieldType.int)) ∈ zw := zw_of (List.mem_of_getElem? (i := 377) (by decide +kernel)) (by decide +kernel)
theorem zw_378 : (Jvm.Cond.classLink "ReplacementWriter" (78 : Nat) "java/lang/IllegalArgumentException") ∈ zw := zw_of (List.mem_of_getElem? (i := 378) (by decide +kernel)) (by decide +kernel)
theorem zw_379 : (Jvm.Cond.instantiable "java/lang/IllegalArgumentException" (6 : Nat)) ∈ zw := zw_of (List.mem_of_getElem? (i := 379) (by decide +kernel)) (by decide +kernel)
theorem zw_381 : (Jvm.Cond.selects "java/lang/IllegalArgumentException" ({ cls := "java/lang/Throwable", name := "fillInStackTrace", desc := "(I)Ljava/lang/Throwable;" } : Jvm.MethodName) ({ cls := "java/lang/Throwable", name := "fillInStackTrace", desc := "(I)Ljava/lang/Throwable;" } : Jvm.MethodName)) ∈ zw := zw_of (List.mem_of_getElem? (i := 381) (by decide +kernel)) (by decide +kernel)
theorem zw_382 : (Jvm.Cond.lays "java/lang/IllegalArgumentException" "java/lang/Throwable" "cause" "Ljava/lang/Throwable;") ∈ zw := zw_of (List.mem_of_getElem? (i := 382) (by decide +kernel)) (by decide +kernel)
theorem zw_383 : (Jvm.Cond.lays "java/lang/IllegalArgumentException" "java/lang/Throwable" "stackTrace" "[Ljava/lang/StackTraceElement;") ∈ zw := zw_of (List.mem_of_getElem? (i := 383) (by decide +kernel)) (by decide +kernel)
theorem zw_384 : (Jvm.Cond.lays "java/lang/IllegalArgumentException" "java/lang/Throwable" "suppressedExceptions" "Ljava/util/List;") ∈ zw := zw_of (List.mem_of_getElem? (i := 384) (by decide +kernel)) (by decide +kernel)
theorem zw_385 : (Jvm.Cond.lays "java/lang/IllegalArgumentException" "java/lang/Throwable" "detailMessage" "Ljava/lang/String;") ∈ zw := zw_of (List.mem_of_getElem? (i := 385) (by decide +kernel)) (by decide +kernel)
theorem zw_386 : (Jvm.Cond.lays "java/lang/IllegalArgumentException" "java/lang/Throwable" "backtrace" "Ljava/lang/Object;") ∈ zw := zw_of (List.mem_of_getElem? (i := 386) (by decide +kernel)) (by decide +kernel)
theorem zw_387 : (Jvm.Cond.methodLink "ReplacementWriter" (80 : Nat) ({ cls := "java/lang/IllegalArgumentException", name := "<init>", desc := "()V" } : Jvm.MethodName)) ∈ zw := zw_of (List.mem_of_getElem? (i := 387) (by decide +kernel)) (by decide +kernel)
theorem zw_388 : (Jvm.Cond.instanceMethod ({ cls := "java/lang/IllegalArgumentException", name := "<init>", desc := "()V" } : Jvm.MethodName)) ∈ zw := zw_of (List.mem_of_getElem? (i := 388) (by decide +kernel)) (by decide +kernel)
theorem zw_389 : (Jvm.Cond.code ({ cls := "java/lang/IllegalArgumentException", name := "<init>", desc := "()V" } : Jvm.MethodName) prog_22_method_1_code (1 : Nat) (Option.none : Option Jvm.ClassFile.FieldType)) ∈ zw := zw_of (List.mem_of_getElem? (i := 389) (by decide +kernel)) (by decide +kernel)
theorem zw_390 : (Jvm.Cond.methodLink "java/lang/IllegalArgumentException" (1 : Nat) ({ cls := "java/lang/RuntimeException", name := "<init>", desc := "()V" } : Jvm.MethodName)) ∈ zw := zw_of (List.mem_of_getElem? (i := 390) (by decide +kernel)) (by decide +kernel)
theorem zw_391 : (Jvm.Cond.lays "java/lang/IllegalArgumentException" "java/lang/Throwable" "depth" "I") ∈ zw := zw_of (List.mem_of_getElem? (i := 391) (by decide +kernel)) (by decide +kernel)
theorem zw_393 : (Jvm.Cond.methodLink "ReplacementWriter" (81 : Nat) ({ cls := "ReplacementWriter$Row", name := "cutTo", desc := "(I)V" } : Jvm.MethodName)) ∈ zw := zw_of (List.mem_of_getElem? (i := 393) (by decide +kernel)) (by decide +kernel)
theorem zw_394 : (Jvm.Cond.instanceMethod ({ cls := "ReplacementWriter$Row", name := "cutTo", desc := "(I)V" } : Jvm.MethodName)) ∈ zw := zw_of (List.mem_of_getElem? (i := 394) (by decide +kernel)) (by decide +kernel)
theorem zw_395 : (Jvm.Cond.selects "ReplacementWriter$Row" ({ cls := "ReplacementWriter$Row", name := "cutTo", desc := "(I)V" } : Jvm.MethodName) ({ cls := "ReplacementWriter$Row", name := "cutTo", desc := "(I)V" } : Jvm.MethodName)) ∈ zw := zw_of (List.mem_of_getElem? (i := 395) (by decide +kernel)) (by decide +kernel)
theorem zw_396 : (Jvm.Cond.code ({ cls := "ReplacementWriter$Row", name := "cutTo", desc := "(I)V" } : Jvm.MethodName) prog_9_method_5_code (2 : Nat) (Option.none : Option Jvm.ClassFile.FieldType)) ∈ zw := zw_of (List.mem_of_getElem? (i := 396) (by decide +kernel)) (by decide +kernel)
theorem zw_397 : (Jvm.Cond.methodLink "ReplacementWriterLaw" (73 : Nat) ({ cls := "ReplacementWriterLaw", name := "groups", desc := "(LReplacementWriter;I)I" } : Jvm.MethodName)) ∈ zw := zw_of (List.mem_of_getElem? (i := 397) (by decide +kernel)) (by decide +kernel)
theorem zw_398 : (Jvm.Cond.static ({ cls := "ReplacementWriterLaw", name := "groups", desc := "(LReplacementWriter;I)I" } : Jvm.MethodName)) ∈ zw := zw_of (List.mem_of_getElem? (i := 398) (by decide +kernel)) (by decide +kernel)
theorem zw_400 : (Jvm.Cond.methodLink "ReplacementWriterLaw" (21 : Nat) ({ cls := "ReplacementWriter", name := "groups", desc := "(I)V" } : Jvm.MethodName)) ∈ zw := zw_of (List.mem_of_getElem? (i := 400) (by decide +kernel)) (by decide +kernel)
theorem zw_401 : (Jvm.Cond.instanceMethod ({ cls := "ReplacementWriter", name := "groups", desc := "(I)V" } : Jvm.MethodName)) ∈ zw := zw_of (List.mem_of_getElem? (i := 401) (by decide +kernel)) (by decide +kernel)
theorem zw_402 : (Jvm.Cond.selects "ReplacementWriter" ({ cls := "ReplacementWriter", name := "groups", desc := "(I)V" } : Jvm.MethodName) ({ cls := "ReplacementWriter", name := "groups", desc := "(I)V" } : Jvm.MethodName)) ∈ zw := zw_of (List.mem_of_getElem? (i := 402) (by decide +kernel)) (by decide +kernel)
theorem zw_403 : (Jvm.Cond.code ({ cls := "ReplacementWriter", name := "groups", desc := "(I)V" } : Jvm.MethodName) prog_1_method_5_code (2 : Nat) (Option.none : Option Jvm.ClassFile.FieldType)) ∈ zw := zw_of (List.mem_of_getElem? (i := 403) (by decide +kernel)) (by decide +kernel)
theorem zw_404 : (Jvm.Cond.methodLink "ReplacementWriter" (84 : Nat) ({ cls := "ReplacementWriter$Groups", name := "startAnew", desc := "(I)V" } : Jvm.MethodName)) ∈ zw := zw_of (List.mem_of_getElem? (i := 404) (by decide +kernel)) (by decide +kernel)
theorem zw_405 : (Jvm.Cond.instanceMethod ({ cls := "ReplacementWriter$Groups", name := "startAnew", desc := "(I)V" } : Jvm.MethodName)) ∈ zw := zw_of (List.mem_of_getElem? (i := 405) (by decide +kernel)) (by decide +kernel)
theorem zw_406 : (Jvm.Cond.selects "ReplacementWriter$Groups" ({ cls := "ReplacementWriter$Groups", name := "startAnew", desc := "(I)V" } : Jvm.MethodName) ({ cls := "ReplacementWriter$Groups", name := "startAnew", desc := "(I)V" } : Jvm.MethodName)) ∈ zw := zw_of (List.mem_of_getElem? (i := 406) (by decide +kernel)) (by decide +kernel)
theorem zw_407 : (Jvm.Cond.code ({ cls := "ReplacementWriter$Groups", name := "startAnew", desc := "(I)V" } : Jvm.MethodName) prog_6_method_2_code (3 : Nat) (Option.none : Option Jvm.ClassFile.FieldType)) ∈ zw := zw_of (List.mem_of_getElem? (i := 407) (by decide +kernel)) (by decide +kernel)
theorem zw_408 : (Jvm.Cond.methodLink "ReplacementWriter$Groups" (43 : Nat) ({ cls := "java/util/ArrayList", name := "clear", desc := "()V" } : Jvm.MethodName)) ∈ zw := zw_of (List.mem_of_getElem? (i := 408) (by decide +kernel)) (by decide +kernel)
theorem zw_409 : (Jvm.Cond.instanceMethod ({ cls := "java/util/ArrayList", name := "clear", desc := "()V" } : Jvm.MethodName)) ∈ zw := zw_of (List.mem_of_getElem? (i := 409) (by decide +kernel)) (by decide +kernel)
theorem zw_410 : (Jvm.Cond.selects "java/util/ArrayList" ({ cls := "java/util/ArrayList", name := "clear", desc := "()V" } : Jvm.MethodName) ({ cls := "java/util/ArrayList", name := "clear", desc := "()V" } : Jvm.MethodName)) ∈ zw := zw_of (List.mem_of_getElem? (i := 410) (by decide +kernel)) (by decide +kernel)
theorem zw_411 : (Jvm.Cond.code ({ cls := "java/util/ArrayList", name := "clear", desc := "()V" } : Jvm.MethodName) prog_39_method_40_code (4 : Nat) (Option.none : Option Jvm.ClassFile.FieldType)) ∈ zw := zw_of (List.mem_of_getElem? (i := 411) (by decide +kernel)) (by decide +kernel)
theorem zw_412 : (Jvm.Cond.methodLink "ReplacementWriter$Groups" (46 : Nat) ({ cls := "ReplacementWriter$Row", name := "cutTo", desc := "(I)V" } : Jvm.MethodName)) ∈ zw := zw_of (List.mem_of_getElem? (i := 412) (by decide +kernel)) (by decide +kernel)
theorem zw_413 : (Jvm.Cond.methodLink "ReplacementWriterLaw" (77 : Nat) ({ cls := "ReplacementWriterLaw", name := "set", desc := "(LReplacementWriter;I[J)I" } : Jvm.MethodName)) ∈ zw := zw_of (List.mem_of_getElem? (i := 413) (by decide +kernel)) (by decide +kernel)
theorem zw_414 : (Jvm.Cond.static ({ cls := "ReplacementWriterLaw", name := "set", desc := "(LReplacementWriter;I[J)I" } : Jvm.MethodName)) ∈ zw := zw_of (List.mem_of_getElem? (i := 414) (by decide +kernel)) (by decide +kernel)
theorem zw_416 : (Jvm.Cond.classLink "ReplacementWriterLaw" (28 : Nat) "java/lang/UnsupportedOperationException") ∈ zw := zw_of (List.mem_of_getElem? (i := 416) (by decide +kernel)) (by decide +kernel)
theorem zw_417 : (Jvm.Cond.methodLink "ReplacementWriterLaw" (25 : Nat) ({ cls := "ReplacementWriter", name := "set", desc := "(I)I" } : Jvm.MethodName)) ∈ zw := zw_of (List.mem_of_getElem? (i := 417) (by decide +kernel)) (by decide +kernel)
theorem zw_418 : (Jvm.Cond.instanceMethod ({ cls := "ReplacementWriter", name := "set", desc := "(I)I" } : Jvm.MethodName)) ∈ zw := zw_of (List.mem_of_getElem? (i := 418) (by decide +kernel)) (by decide +kernel)
theorem zw_419 : (Jvm.Cond.selects "ReplacementWriter" ({ cls := "ReplacementWriter", name := "set", desc := "(I)I" } : Jvm.MethodName) ({ cls := "ReplacementWriter", name := "set", desc := "(I)I" } : Jvm.MethodName)) ∈ zw := zw_of (List.mem_of_getElem? (i := 419) (by decide +kernel)) (by decide +kernel)
theorem zw_420 : (Jvm.Cond.code ({ cls := "ReplacementWriter", name := "set", desc := "(I)I" } : Jvm.MethodName) prog_1_method_6_code (2 : Nat) (Option.some Jvm.ClassFile.FieldType.int)) ∈ zw := zw_of (List.mem_of_getElem? (i := 420) (by decide +kernel)) (by decide +kernel)
theorem zw_421 : (Jvm.Cond.methodLink "ReplacementWriter" (87 : Nat) ({ cls := "ReplacementWriter$Groups", name := "has", desc := "(I)Z" } : Jvm.MethodName)) ∈ zw := zw_of (List.mem_of_getElem? (i := 421) (by decide +kernel)) (by decide +kernel)
theorem zw_422 : (Jvm.Cond.instanceMethod ({ cls := "ReplacementWriter$Groups", name := "has", desc := "(I)Z" } : Jvm.MethodName)) ∈ zw := zw_of (List.mem_of_getElem? (i := 422) (by decide +kernel)) (by decide +kernel)
theorem zw_423 : (Jvm.Cond.selects "ReplacementWriter$Groups" ({ cls := "ReplacementWriter$Groups", name := "has", desc := "(I)Z" } : Jvm.MethodName) ({ cls := "ReplacementWriter$Groups", name := "has", desc := "(I)Z" } : Jvm.MethodName)) ∈ zw := zw_of (List.mem_of_getElem? (i := 423) (by decide +kernel)) (by decide +kernel)
theorem zw_424 : (Jvm.Cond.code ({ cls := "ReplacementWriter$Groups", name := "has", desc := "(I)Z" } : Jvm.MethodName) prog_6_method_6_code (2 : Nat) (Option.some Jvm.ClassFile.FieldType.boolean)) ∈ zw := zw_of (List.mem_of_getElem? (i := 424) (by decide +kernel)) (by decide +kernel)
theorem zw_425 : (Jvm.Cond.methodLink "ReplacementWriter" (91 : Nat) ({ cls := "ReplacementWriter$Encoding", name := "firstBad", desc := "(LReplacementWriter$Row;)I" } : Jvm.MethodName)) ∈ zw := zw_of (List.mem_of_getElem? (i := 425) (by decide +kernel)) (by decide +kernel)
theorem zw_426 : (Jvm.Cond.instanceMethod ({ cls := "ReplacementWriter$Encoding", name := "firstBad", desc := "(LReplacementWriter$Row;)I" } : Jvm.MethodName)) ∈ zw := zw_of (List.mem_of_getElem? (i := 426) (by decide +kernel)) (by decide +kernel)
theorem zw_427 : (Jvm.Cond.selects "ReplacementWriter$Encoding" ({ cls := "ReplacementWriter$Encoding", name := "firstBad", desc := "(LReplacementWriter$Row;)I" } : Jvm.MethodName) ({ cls := "ReplacementWriter$Encoding", name := "firstBad", desc := "(LReplacementWriter$Row;)I" } : Jvm.MethodName)) ∈ zw := zw_of (List.mem_of_getElem? (i := 427) (by decide +kernel)) (by decide +kernel)
theorem zw_428 : (Jvm.Cond.code ({ cls := "ReplacementWriter$Encoding", name := "firstBad", desc := "(LReplacementWriter$Row;)I" } : Jvm.MethodName) prog_4_method_6_code (3 : Nat) (Option.some Jvm.ClassFile.FieldType.int)) ∈ zw := zw_of (List.mem_of_getElem? (i := 428) (by decide +kernel)) (by decide +kernel)
theorem zw_429 : (Jvm.Cond.methodLink "ReplacementWriter$Encoding" (31 : Nat) ({ cls := "ReplacementWriter$Row", name := "length", desc := "()I" } : Jvm.MethodName)) ∈ zw := zw_of (List.mem_of_getElem? (i := 429) (by decide +kernel)) (by decide +kernel)
theorem zw_430 : (Jvm.Cond.methodLink "ReplacementWriter$Encoding" (35 : Nat) ({ cls := "ReplacementWriter$Encoding", name := "isGood", desc := "(LReplacementWriter$Row;I)Z" } : Jvm.MethodName)) ∈ zw := zw_of (List.mem_of_getElem? (i := 430) (by decide +kernel)) (by decide +kernel)
theorem zw_432 : (Jvm.Cond.instanceMethod ({ cls := "ReplacementWriter$Encoding", name := "isGood", desc := "(LReplacementWriter$Row;I)Z" } : Jvm.MethodName)) ∈ zw := zw_of (List.mem_of_getElem? (i := 432) (by decide +kernel)) (by decide +kernel)
theorem zw_433 : (Jvm.Cond.code ({ cls := "ReplacementWriter$Encoding", name := "isGood", desc := "(LReplacementWriter$Row;I)Z" } : Jvm.MethodName) prog_4_method_7_code (5 : Nat) (Option.some Jvm.ClassFile.FieldType.boolean)) ∈ zw := zw_of (List.mem_of_getElem? (i := 433) (by decide +kernel)) (by decide +kernel)
theorem zw_434 : (Jvm.Cond.methodLink "ReplacementWriter$Encoding" (22 : Nat) ({ cls := "ReplacementWriter$Row", name := "at", desc := "(I)I" } : Jvm.MethodName)) ∈ zw := zw_of (List.mem_of_getElem? (i := 434) (by decide +kernel)) (by decide +kernel)
theorem zw_435 : (Jvm.Cond.instanceMethod ({ cls := "ReplacementWriter$Row", name := "at", desc := "(I)I" } : Jvm.MethodName)) ∈ zw := zw_of (List.mem_of_getElem? (i := 435) (by decide +kernel)) (by decide +kernel)
theorem zw_436 : (Jvm.Cond.selects "ReplacementWriter$Row" ({ cls := "ReplacementWriter$Row", name := "at", desc := "(I)I" } : Jvm.MethodName) ({ cls := "ReplacementWriter$Row", name := "at", desc := "(I)I" } : Jvm.MethodName)) ∈ zw := zw_of (List.mem_of_getElem? (i := 436) (by decide +kernel)) (by decide +kernel)
theorem zw_437 : (Jvm.Cond.code ({ cls := "ReplacementWriter$Row", name := "at", desc := "(I)I" } : Jvm.MethodName) prog_9_method_3_code (2 : Nat) (Option.some Jvm.ClassFile.FieldType.int)) ∈ zw := zw_of (List.mem_of_getElem? (i := 437) (by decide +kernel)) (by decide +kernel)
theorem zw_438 : (Jvm.Cond.methodLink "ReplacementWriter$Encoding" (28 : Nat) ({ cls := "ReplacementWriter$Encoding", name := "lengthBehind", desc := "(I)I" } : Jvm.MethodName)) ∈ zw := zw_of (List.mem_of_getElem? (i := 438) (by decide +kernel)) (by decide +kernel)
theorem zw_439 : (Jvm.Cond.instanceMethod ({ cls := "ReplacementWriter$Encoding", name := "lengthBehind", desc := "(I)I" } : Jvm.MethodName)) ∈ zw := zw_of (List.mem_of_getElem? (i := 439) (by decide +kernel)) (by decide +kernel)
theorem zw_440 : (Jvm.Cond.selects "ReplacementWriter$Encoding" ({ cls := "ReplacementWriter$Encoding", name := "lengthBehind", desc := "(I)I" } : Jvm.MethodName) ({ cls := "ReplacementWriter$Encoding", name := "lengthBehind", desc := "(I)I" } : Jvm.MethodName)) ∈ zw := zw_of (List.mem_of_getElem? (i := 440) (by decide +kernel)) (by decide +kernel)
theorem zw_441 : (Jvm.Cond.code ({ cls := "ReplacementWriter$Encoding", name := "lengthBehind", desc := "(I)I" } : Jvm.MethodName) prog_4_method_4_code (2 : Nat) (Option.some Jvm.ClassFile.FieldType.int)) ∈ zw := zw_of (List.mem_of_getElem? (i := 441) (by decide +kernel)) (by decide +kernel)
theorem zw_442 : (Jvm.Cond.methodLink "ReplacementWriter$Encoding" (45 : Nat) ({ cls := "ReplacementWriter$Encoding", name := "characterAt", desc := "(LReplacementWriter$Row;I)I" } : Jvm.MethodName)) ∈ zw := zw_of (List.mem_of_getElem? (i := 442) (by decide +kernel)) (by decide +kernel)
theorem zw_443 : (Jvm.Cond.instanceMethod ({ cls := "ReplacementWriter$Encoding", name := "characterAt", desc := "(LReplacementWriter$Row;I)I" } : Jvm.MethodName)) ∈ zw := zw_of (List.mem_of_getElem? (i := 443) (by decide +kernel)) (by decide +kernel)
theorem zw_444 : (Jvm.Cond.selects "ReplacementWriter$Encoding" ({ cls := "ReplacementWriter$Encoding", name := "characterAt", desc := "(LReplacementWriter$Row;I)I" } : Jvm.MethodName) ({ cls := "ReplacementWriter$Encoding", name := "characterAt", desc := "(LReplacementWriter$Row;I)I" } : Jvm.MethodName)) ∈ zw := zw_of (List.mem_of_getElem? (i := 444) (by decide +kernel)) (by decide +kernel)
theorem zw_445 : (Jvm.Cond.code ({ cls := "ReplacementWriter$Encoding", name := "characterAt", desc := "(LReplacementWriter$Row;I)I" } : Jvm.MethodName) prog_4_method_5_code (7 : Nat) (Option.some Jvm.ClassFile.FieldType.int)) ∈ zw := zw_of (List.mem_of_getElem? (i := 445) (by decide +kernel)) (by decide +kernel)
theorem zw_446 : (Jvm.Cond.methodLink "ReplacementWriter$Encoding" (49 : Nat) ({ cls := "ReplacementWriter$Encoding", name := "exists", desc := "(J)Z" } : Jvm.MethodName)) ∈ zw := zw_of (List.mem_of_getElem? (i := 446) (by decide +kernel)) (by decide +kernel)
theorem zw_447 : (Jvm.Cond.instanceMethod ({ cls := "ReplacementWriter$Encoding", name := "exists", desc := "(J)Z" } : Jvm.MethodName)) ∈ zw := zw_of (List.mem_of_getElem? (i := 447) (by decide +kernel)) (by decide +kernel)
theorem zw_448 : (Jvm.Cond.selects "ReplacementWriter$Encoding" ({ cls := "ReplacementWriter$Encoding", name := "exists", desc := "(J)Z" } : Jvm.MethodName) ({ cls := "ReplacementWriter$Encoding", name := "exists", desc := "(J)Z" } : Jvm.MethodName)) ∈ zw := zw_of (List.mem_of_getElem? (i := 448) (by decide +kernel)) (by decide +kernel)
theorem zw_449 : (Jvm.Cond.code ({ cls := "ReplacementWriter$Encoding", name := "exists", desc := "(J)Z" } : Jvm.MethodName) prog_4_method_2_code (3 : Nat) (Option.some Jvm.ClassFile.FieldType.boolean)) ∈ zw := zw_of (List.mem_of_getElem? (i := 449) (by decide +kernel)) (by decide +kernel)
theorem zw_450 : (Jvm.Cond.constantLong "ReplacementWriter$Encoding" (13 : Nat) (255 : Int64)) ∈ zw := zw_of (List.mem_of_getElem? (i := 450) (by decide +kernel)) (by decide +kernel)
theorem zw_451 : (Jvm.Cond.constantLong "ReplacementWriter$Encoding" (15 : Nat) (1114111 : Int64)) ∈ zw := zw_of (List.mem_of_getElem? (i := 451) (by decide +kernel)) (by decide +kernel)
theorem zw_452 : (Jvm.Cond.constantLong "ReplacementWriter$Encoding" (17 : Nat) (55296 : Int64)) ∈ zw := zw_of (List.mem_of_getElem? (i := 452) (by decide +kernel)) (by decide +kernel)
theorem zw_453 : (Jvm.Cond.constantLong "ReplacementWriter$Encoding" (19 : Nat) (57343 : Int64)) ∈ zw := zw_of (List.mem_of_getElem? (i := 453) (by decide +kernel)) (by decide +kernel)
theorem zw_454 : (Jvm.Cond.methodLink "ReplacementWriter$Encoding" (53 : Nat) ({ cls := "ReplacementWriter$Encoding", name := "lengthOf", desc := "(I)I" } : Jvm.MethodName)) ∈ zw := zw_of (List.mem_of_getElem? (i := 454) (by decide +kernel)) (by decide +kernel)
theorem zw_455 : (Jvm.Cond.instanceMethod ({ cls := "ReplacementWriter$Encoding", name := "lengthOf", desc := "(I)I" } : Jvm.MethodName)) ∈ zw := zw_of (List.mem_of_getElem? (i := 455) (by decide +kernel)) (by decide +kernel)
theorem zw_456 : (Jvm.Cond.selects "ReplacementWriter$Encoding" ({ cls := "ReplacementWriter$Encoding", name := "lengthOf", desc := "(I)I" } : Jvm.MethodName) ({ cls := "ReplacementWriter$Encoding", name := "lengthOf", desc := "(I)I" } : Jvm.MethodName)) ∈ zw := zw_of (List.mem_of_getElem? (i := 456) (by decide +kernel)) (by decide +kernel)
theorem zw_457 : (Jvm.Cond.code ({ cls := "ReplacementWriter$Encoding", name := "lengthOf", desc := "(I)I" } : Jvm.MethodName) prog_4_method_3_code (2 : Nat) (Option.some Jvm.ClassFile.FieldType.int)) ∈ zw := zw_of (List.mem_of_getElem? (i := 457) (by decide +kernel)) (by decide +kernel)
theorem zw_458 : (Jvm.Cond.constant "ReplacementWriter$Encoding" (21 : Nat) (65536 : Int32)) ∈ zw := zw_of (List.mem_of_getElem? (i := 458) (by decide +kernel)) (by decide +kernel)
theorem zw_459 : (Jvm.Cond.methodLink "ReplacementWriter$Encoding" (39 : Nat) ({ cls := "java/lang/Math", name := "max", desc := "(II)I" } : Jvm.MethodName)) ∈ zw := zw_of (List.mem_of_getElem? (i := 459) (by decide +kernel)) (by decide +kernel)
theorem zw_460 : (Jvm.Cond.static ({ cls := "java/lang/Math", name := "max", desc := "(II)I" } : Jvm.MethodName)) ∈ zw := zw_of (List.mem_of_getElem? (i := 460) (by decide +kernel)) (by decide +kernel)
theorem zw_461 : (Jvm.Cond.code ({ cls := "java/lang/Math", name := "max", desc := "(II)I" } : Jvm.MethodName) prog_28_method_65_code (2 : Nat) (Option.some Jvm.ClassFile.FieldType.int)) ∈ zw := zw_of (List.mem_of_getElem? (i := 461) (by decide +kernel)) (by decide +kernel)
theorem zw_462 : (Jvm.Cond.classLink "ReplacementWriter" (95 : Nat) "java/lang/UnsupportedOperationException") ∈ zw := zw_of (List.mem_of_getElem? (i := 462) (by decide +kernel)) (by decide +kernel)
theorem zw_463 : (Jvm.Cond.instantiable "java/lang/UnsupportedOperationException" (6 : Nat)) ∈ zw := zw_of (List.mem_of_getElem? (i := 463) (by decide +kernel)) (by decide +kernel)
theorem zw_465 : (Jvm.Cond.selects "java/lang/UnsupportedOperationException" ({ cls := "java/lang/Throwable", name := "fillInStackTrace", desc := "(I)Ljava/lang/Throwable;" } : Jvm.MethodName) ({ cls := "java/lang/Throwable", name := "fillInStackTrace", desc := "(I)Ljava/lang/Throwable;" } : Jvm.MethodName)) ∈ zw := zw_of (List.mem_of_getElem? (i := 465) (by decide +kernel)) (by decide +kernel)
theorem zw_466 : (Jvm.Cond.lays "java/lang/UnsupportedOperationException" "java/lang/Throwable" "cause" "Ljava/lang/Throwable;") ∈ zw := zw_of (List.mem_of_getElem? (i := 466) (by decide +kernel)) (by decide +kernel)
theorem zw_467 : (Jvm.Cond.lays "java/lang/UnsupportedOperationException" "java/lang/Throwable" "stackTrace" "[Ljava/lang/StackTraceElement;") ∈ zw := zw_of (List.mem_of_getElem? (i := 467) (by decide +kernel)) (by decide +kernel)
theorem zw_468 : (Jvm.Cond.lays "java/lang/UnsupportedOperationException" "java/lang/Throwable" "suppressedExceptions" "Ljava/util/List;") ∈ zw := zw_of (List.mem_of_getElem? (i := 468) (by decide +kernel)) (by decide +kernel)
theorem zw_469 : (Jvm.Cond.lays "java/lang/UnsupportedOperationException" "java/lang/Throwable" "detailMessage" "Ljava/lang/String;") ∈ zw := zw_of (List.mem_of_getElem? (i := 469) (by decide +kernel)) (by decide +kernel)
theorem zw_470 : (Jvm.Cond.lays "java/lang/UnsupportedOperationException" "java/lang/Throwable" "backtrace" "Ljava/lang/Object;") ∈ zw := zw_of (List.mem_of_getElem? (i := 470) (by decide +kernel)) (by decide +kernel)
theorem zw_471 : (Jvm.Cond.methodLink "ReplacementWriter" (97 : Nat) ({ cls := "java/lang/UnsupportedOperationException", name := "<init>", desc := "()V" } : Jvm.MethodName)) ∈ zw := zw_of (List.mem_of_getElem? (i := 471) (by decide +kernel)) (by decide +kernel)
theorem zw_472 : (Jvm.Cond.instanceMethod ({ cls := "java/lang/UnsupportedOperationException", name := "<init>", desc := "()V" } : Jvm.MethodName)) ∈ zw := zw_of (List.mem_of_getElem? (i := 472) (by decide +kernel)) (by decide +kernel)
theorem zw_473 : (Jvm.Cond.code ({ cls := "java/lang/UnsupportedOperationException", name := "<init>", desc := "()V" } : Jvm.MethodName) prog_36_method_1_code (1 : Nat) (Option.none : Option Jvm.ClassFile.FieldType)) ∈ zw := zw_of (List.mem_of_getElem? (i := 473) (by decide +kernel)) (by decide +kernel)
theorem zw_474 : (Jvm.Cond.methodLink "java/lang/UnsupportedOperationException" (1 : Nat) ({ cls := "java/lang/RuntimeException", name := "<init>", desc := "()V" } : Jvm.MethodName)) ∈ zw := zw_of (List.mem_of_getElem? (i := 474) (by decide +kernel)) (by decide +kernel)
theorem zw_475 : (Jvm.Cond.lays "java/lang/UnsupportedOperationException" "java/lang/Throwable" "depth" "I") ∈ zw := zw_of (List.mem_of_getElem? (i := 475) (by decide +kernel)) (by decide +kernel)
theorem zw_477 : (Jvm.Cond.methodLink "ReplacementWriter" (98 : Nat) ({ cls := "ReplacementWriter$Groups", name := "hold", desc := "(ILReplacementWriter$Row;)V" } : Jvm.MethodName)) ∈ zw := zw_of (List.mem_of_getElem? (i := 477) (by decide +kernel)) (by decide +kernel)
theorem zw_478 : (Jvm.Cond.instanceMethod ({ cls := "ReplacementWriter$Groups", name := "hold", desc := "(ILReplacementWriter$Row;)V" } : Jvm.MethodName)) ∈ zw := zw_of (List.mem_of_getElem? (i := 478) (by decide +kernel)) (by decide +kernel)
theorem zw_479 : (Jvm.Cond.selects "ReplacementWriter$Groups" ({ cls := "ReplacementWriter$Groups", name := "hold", desc := "(ILReplacementWriter$Row;)V" } : Jvm.MethodName) ({ cls := "ReplacementWriter$Groups", name := "hold", desc := "(ILReplacementWriter$Row;)V" } : Jvm.MethodName)) ∈ zw := zw_of (List.mem_of_getElem? (i := 479) (by decide +kernel)) (by decide +kernel)
theorem zw_480 : (Jvm.Cond.code ({ cls := "ReplacementWriter$Groups", name := "hold", desc := "(ILReplacementWriter$Row;)V" } : Jvm.MethodName) prog_6_method_7_code (3 : Nat) (Option.none : Option Jvm.ClassFile.FieldType)) ∈ zw := zw_of (List.mem_of_getElem? (i := 480) (by decide +kernel)) (by decide +kernel)
theorem zw_481 : (Jvm.Cond.methodLink "ReplacementWriter$Groups" (49 : Nat) ({ cls := "ReplacementWriter$Row", name := "become", desc := "(LReplacementWriter$Row;)V" } : Jvm.MethodName)) ∈ zw := zw_of (List.mem_of_getElem? (i := 481) (by decide +kernel)) (by decide +kernel)
theorem zw_482 : (Jvm.Cond.instanceMethod ({ cls := "ReplacementWriter$Row", name := "become", desc := "(LReplacementWriter$Row;)V" } : Jvm.MethodName)) ∈ zw := zw_of (List.mem_of_getElem? (i := 482) (by decide +kernel)) (by decide +kernel)
theorem zw_483 : (Jvm.Cond.selects "ReplacementWriter$Row" ({ cls := "ReplacementWriter$Row", name := "become", desc := "(LReplacementWriter$Row;)V" } : Jvm.MethodName) ({ cls := "ReplacementWriter$Row", name := "become", desc := "(LReplacementWriter$Row;)V" } : Jvm.MethodName)) ∈ zw := zw_of (List.mem_of_getElem? (i := 483) (by decide +kernel)) (by decide +kernel)
theorem zw_484 : (Jvm.Cond.code ({ cls := "ReplacementWriter$Row", name := "become", desc := "(LReplacementWriter$Row;)V" } : Jvm.MethodName) prog_9_method_6_code (2 : Nat) (Option.none : Option Jvm.ClassFile.FieldType)) ∈ zw := zw_of (List.mem_of_getElem? (i := 484) (by decide +kernel)) (by decide +kernel)
theorem zw_485 : (Jvm.Cond.methodLink "ReplacementWriter$Row" (26 : Nat) ({ cls := "java/lang/System", name := "arraycopy", desc := "(Ljava/lang/Object;ILjava/lang/Object;II)V" } : Jvm.MethodName)) ∈ zw := zw_of (List.mem_of_getElem? (i := 485) (by decide +kernel)) (by decide +kernel)
theorem zw_486 : (Jvm.Cond.methodLink "ReplacementWriter" (102 : Nat) ({ cls := "ReplacementWriter", name := "takeText", desc := "()I" } : Jvm.MethodName)) ∈ zw := zw_of (List.mem_of_getElem? (i := 486) (by decide +kernel)) (by decide +kernel)
theorem zw_488 : (Jvm.Cond.instanceMethod ({ cls := "ReplacementWriter", name := "takeText", desc := "()I" } : Jvm.MethodName)) ∈ zw := zw_of (List.mem_of_getElem? (i := 488) (by decide +kernel)) (by decide +kernel)
theorem zw_489 : (Jvm.Cond.code ({ cls := "ReplacementWriter", name := "takeText", desc := "()I" } : Jvm.MethodName) prog_1_method_10_code (2 : Nat) (Option.some Jvm.ClassFile.FieldType.int)) ∈ zw := zw_of (List.mem_of_getElem? (i := 489) (by decide +kernel)) (by decide +kernel)
theorem zw_490 : (Jvm.Cond.methodLink "ReplacementWriter" (122 : Nat) ({ cls := "ReplacementWriter$Encoding", name := "charactersIn", desc := "(LReplacementWriter$Row;)I" } : Jvm.MethodName)) ∈ zw := zw_of (List.mem_of_getElem? (i := 490) (by decide +kernel)) (by decide +kernel)
theorem zw_491 : (Jvm.Cond.instanceMethod ({ cls := "ReplacementWriter$Encoding", name := "charactersIn", desc := "(LReplacementWriter$Row;)I" } : Jvm.MethodName)) ∈ zw := zw_of (List.mem_of_getElem? (i := 491) (by decide +kernel)) (by decide +kernel)
theorem zw_492 : (Jvm.Cond.selects "ReplacementWriter$Encoding" ({ cls := "ReplacementWriter$Encoding", name := "charactersIn", desc := "(LReplacementWriter$Row;)I" } : Jvm.MethodName) ({ cls := "ReplacementWriter$Encoding", name := "charactersIn", desc := "(LReplacementWriter$Row;)I" } : Jvm.MethodName)) ∈ zw := zw_of (List.mem_of_getElem? (i := 492) (by decide +kernel)) (by decide +kernel)
theorem zw_493 : (Jvm.Cond.code ({ cls := "ReplacementWriter$Encoding", name := "charactersIn", desc := "(LReplacementWriter$Row;)I" } : Jvm.MethodName) prog_4_method_8_code (4 : Nat) (Option.some Jvm.ClassFile.FieldType.int)) ∈ zw := zw_of (List.mem_of_getElem? (i := 493) (by decide +kernel)) (by decide +kernel)
theorem zw_494 : (Jvm.Cond.methodLink "ReplacementWriterLaw" (80 : Nat) ({ cls := "ReplacementWriterLaw", name := "unset", desc := "(LReplacementWriter;I)I" } : Jvm.MethodName)) ∈ zw := zw_of (List.mem_of_getElem? (i := 494) (by decide +kernel)) (by decide +kernel)
theorem zw_495 : (Jvm.Cond.static ({ cls := "ReplacementWriterLaw", name := "unset", desc := "(LReplacementWriter;I)I" } : Jvm.MethodName)) ∈ zw := zw_of (List.mem_of_getElem? (i := 495) (by decide +kernel)) (by decide +kernel)
theorem zw_497 : (Jvm.Cond.methodLink "ReplacementWriterLaw" (30 : Nat) ({ cls := "ReplacementWriter", name := "unset", desc := "(I)V" } : Jvm.MethodName)) ∈ zw := zw_of (List.mem_of_getElem? (i := 497) (by decide +kernel)) (by decide +kernel)
theorem zw_498 : (Jvm.Cond.instanceMethod ({ cls := "ReplacementWriter", name := "unset", desc := "(I)V" } : Jvm.MethodName)) ∈ zw := zw_of (List.mem_of_getElem? (i := 498) (by decide +kernel)) (by decide +kernel)
theorem zw_499 : (Jvm.Cond.selects "ReplacementWriter" ({ cls := "ReplacementWriter", name := "unset", desc := "(I)V" } : Jvm.MethodName) ({ cls := "ReplacementWriter", name := "unset", desc := "(I)V" } : Jvm.MethodName)) ∈ zw := zw_of (List.mem_of_getElem? (i := 499) (by decide +kernel)) (by decide +kernel)
theorem zw_500 : (Jvm.Cond.code ({ cls := "ReplacementWriter", name := "unset", desc := "(I)V" } : Jvm.MethodName) prog_1_method_7_code (2 : Nat) (Option.none : Option Jvm.ClassFile.FieldType)) ∈ zw := zw_of (List.mem_of_getElem? (i := 500) (by decide +kernel)) (by decide +kernel)
theorem zw_501 : (Jvm.Cond.methodLink "ReplacementWriter" (105 : Nat) ({ cls := "ReplacementWriter$Groups", name := "letGo", desc := "(I)V" } : Jvm.MethodName)) ∈ zw := zw_of (List.mem_of_getElem? (i := 501) (by decide +kernel)) (by decide +kernel)
theorem zw_502 : (Jvm.Cond.instanceMethod ({ cls := "ReplacementWriter$Groups", name := "letGo", desc := "(I)V" } : Jvm.MethodName)) ∈ zw := zw_of (List.mem_of_getElem? (i := 502) (by decide +kernel)) (by decide +kernel)
theorem zw_503 : (Jvm.Cond.selects "ReplacementWriter$Groups" ({ cls := "ReplacementWriter$Groups", name := "letGo", desc := "(I)V" } : Jvm.MethodName) ({ cls := "ReplacementWriter$Groups", name := "letGo", desc := "(I)V" } : Jvm.MethodName)) ∈ zw := zw_of (List.mem_of_getElem? (i := 503) (by decide +kernel)) (by decide +kernel)
theorem zw_504 : (Jvm.Cond.code ({ cls := "ReplacementWriter$Groups", name := "letGo", desc := "(I)V" } : Jvm.MethodName) prog_6_method_8_code (2 : Nat) (Option.none : Option Jvm.ClassFile.FieldType)) ∈ zw := zw_of (List.mem_of_getElem? (i := 504) (by decide +kernel)) (by decide +kernel)
theorem zw_505 : (Jvm.Cond.methodLink "ReplacementWriterLaw" (83 : Nat) ({ cls := "ReplacementWriterLaw", name := "name", desc := "(LReplacementWriter;I[J)I" } : Jvm.MethodName)) ∈ zw := zw_of (List.mem_of_getElem? (i := 505) (by decide +kernel)) (by decide +kernel)
theorem zw_506 : (Jvm.Cond.static ({ cls := "ReplacementWriterLaw", name := "name", desc := "(LReplacementWriter;I[J)I" } : Jvm.MethodName)) ∈ zw := zw_of (List.mem_of_getElem? (i := 506) (by decide +kernel)) (by decide +kernel)
theorem zw_508 : (Jvm.Cond.methodLink "ReplacementWriterLaw" (33 : Nat) ({ cls := "ReplacementWriter", name := "name", desc := "(I)I" } : Jvm.MethodName)) ∈ zw := zw_of (List.mem_of_getElem? (i := 508) (by decide +kernel)) (by decide +kernel)
theorem zw_509 : (Jvm.Cond.instanceMethod ({ cls := "ReplacementWriter", name := "name", desc := "(I)I" } : Jvm.MethodName)) ∈ zw := zw_of (List.mem_of_getElem? (i := 509) (by decide +kernel)) (by decide +kernel)
theorem zw_510 : (Jvm.Cond.selects "ReplacementWriter" ({ cls := "ReplacementWriter", name := "name", desc := "(I)I" } : Jvm.MethodName) ({ cls := "ReplacementWriter", name := "name", desc := "(I)I" } : Jvm.MethodName)) ∈ zw := zw_of (List.mem_of_getElem? (i := 510) (by decide +kernel)) (by decide +kernel)
theorem zw_511 : (Jvm.Cond.code ({ cls := "ReplacementWriter", name := "name", desc := "(I)I" } : Jvm.MethodName) prog_1_method_8_code (2 : Nat) (Option.some Jvm.ClassFile.FieldType.int)) ∈ zw := zw_of (List.mem_of_getElem? (i := 511) (by decide +kernel)) (by decide +kernel)
theorem zw_512 : (Jvm.Cond.methodLink "ReplacementWriter" (108 : Nat) ({ cls := "ReplacementWriter$Groups", name := "isName", desc := "(LReplacementWriter$Row;)Z" } : Jvm.MethodName)) ∈ zw := zw_of (List.mem_of_getElem? (i := 512) (by decide +kernel)) (by decide +kernel)
theorem zw_513 : (Jvm.Cond.static ({ cls := "ReplacementWriter$Groups", name := "isName", desc := "(LReplacementWriter$Row;)Z" } : Jvm.MethodName)) ∈ zw := zw_of (List.mem_of_getElem? (i := 513) (by decide +kernel)) (by decide +kernel)
theorem zw_514 : (Jvm.Cond.code ({ cls := "ReplacementWriter$Groups", name := "isName", desc := "(LReplacementWriter$Row;)Z" } : Jvm.MethodName) prog_6_method_11_code (2 : Nat) (Option.some Jvm.ClassFile.FieldType.boolean)) ∈ zw := zw_of (List.mem_of_getElem? (i := 514) (by decide +kernel)) (by decide +kernel)
theorem zw_515 : (Jvm.Cond.methodLink "ReplacementWriter$Groups" (53 : Nat) ({ cls := "ReplacementWriter$Row", name := "length", desc := "()I" } : Jvm.MethodName)) ∈ zw := zw_of (List.mem_of_getElem? (i := 515) (by decide +kernel)) (by decide +kernel)
theorem zw_516 : (Jvm.Cond.methodLink "ReplacementWriter$Groups" (57 : Nat) ({ cls := "ReplacementWriter$Row", name := "at", desc := "(I)I" } : Jvm.MethodName)) ∈ zw := zw_of (List.mem_of_getElem? (i := 516) (by decide +kernel)) (by decide +kernel)
theorem zw_517 : (Jvm.Cond.methodLink "ReplacementWriter$Groups" (61 : Nat) ({ cls := "ReplacementWriter$Ascii", name := "isDigit", desc := "(I)Z" } : Jvm.MethodName)) ∈ zw := zw_of (List.mem_of_getElem? (i := 517) (by decide +kernel)) (by decide +kernel)
theorem zw_518 : (Jvm.Cond.static ({ cls := "ReplacementWriter$Ascii", name := "isDigit", desc := "(I)Z" } : Jvm.MethodName)) ∈ zw := zw_of (List.mem_of_getElem? (i := 518) (by decide +kernel)) (by decide +kernel)
theorem zw_519 : (Jvm.Cond.code ({ cls := "ReplacementWriter$Ascii", name := "isDigit", desc := "(I)Z" } : Jvm.MethodName) prog_2_method_2_code (1 : Nat) (Option.some Jvm.ClassFile.FieldType.boolean)) ∈ zw := zw_of (List.mem_of_getElem? (i := 519) (by decide +kernel)) (by decide +kernel)
theorem zw_520 : (Jvm.Cond.methodLink "ReplacementWriter$Groups" (67 : Nat) ({ cls := "ReplacementWriter$Ascii", name := "isWord", desc := "(I)Z" } : Jvm.MethodName)) ∈ zw := zw_of (List.mem_of_getElem? (i := 520) (by decide +kernel)) (by decide +kernel)
theorem zw_521 : (Jvm.Cond.static ({ cls := "ReplacementWriter$Ascii", name := "isWord", desc := "(I)Z" } : Jvm.MethodName)) ∈ zw := zw_of (List.mem_of_getElem? (i := 521) (by decide +kernel)) (by decide +kernel)
theorem zw_522 : (Jvm.Cond.code ({ cls := "ReplacementWriter$Ascii", name := "isWord", desc := "(I)Z" } : Jvm.MethodName) prog_2_method_4_code (1 : Nat) (Option.some Jvm.ClassFile.FieldType.boolean)) ∈ zw := zw_of (List.mem_of_getElem? (i := 522) (by decide +kernel)) (by decide +kernel)
theorem zw_523 : (Jvm.Cond.methodLink "ReplacementWriter$Ascii" (13 : Nat) ({ cls := "ReplacementWriter$Ascii", name := "isLetterOrDigit", desc := "(I)Z" } : Jvm.MethodName)) ∈ zw := zw_of (List.mem_of_getElem? (i := 523) (by decide +kernel)) (by decide +kernel)
theorem zw_524 : (Jvm.Cond.static ({ cls := "ReplacementWriter$Ascii", name := "isLetterOrDigit", desc := "(I)Z" } : Jvm.MethodName)) ∈ zw := zw_of (List.mem_of_getElem? (i := 524) (by decide +kernel)) (by decide +kernel)
theorem zw_525 : (Jvm.Cond.code ({ cls := "ReplacementWriter$Ascii", name := "isLetterOrDigit", desc := "(I)Z" } : Jvm.MethodName) prog_2_method_3_code (1 : Nat) (Option.some Jvm.ClassFile.FieldType.boolean)) ∈ zw := zw_of (List.mem_of_getElem? (i := 525) (by decide +kernel)) (by decide +kernel)
theorem zw_526 : (Jvm.Cond.methodLink "ReplacementWriter$Ascii" (7 : Nat) ({ cls := "ReplacementWriter$Ascii", name := "isDigit", desc := "(I)Z" } : Jvm.MethodName)) ∈ zw := zw_of (List.mem_of_getElem? (i := 526) (by decide +kernel)) (by decide +kernel)
theorem zw_527 : (Jvm.Cond.methodLink "ReplacementWriter" (112 : Nat) ({ cls := "ReplacementWriter$Groups", name := "giveName", desc := "(ILReplacementWriter$Row;)V" } : Jvm.MethodName)) ∈ zw := zw_of (List.mem_of_getElem? (i := 527) (by decide +kernel)) (by decide +kernel)
theorem zw_528 : (Jvm.Cond.instanceMethod ({ cls := "ReplacementWriter$Groups", name := "giveName", desc := "(ILReplacementWriter$Row;)V" } : Jvm.MethodName)) ∈ zw := zw_of (List.mem_of_getElem? (i := 528) (by decide +kernel)) (by decide +kernel)
theorem zw_529 : (Jvm.Cond.selects "ReplacementWriter$Groups" ({ cls := "ReplacementWriter$Groups", name := "giveName", desc := "(ILReplacementWriter$Row;)V" } : Jvm.MethodName) ({ cls := "ReplacementWriter$Groups", name := "giveName", desc := "(ILReplacementWriter$Row;)V" } : Jvm.MethodName)) ∈ zw := zw_of (List.mem_of_getElem? (i := 529) (by decide +kernel)) (by decide +kernel)
theorem zw_530 : (Jvm.Cond.code ({ cls := "ReplacementWriter$Groups", name := "giveName", desc := "(ILReplacementWriter$Row;)V" } : Jvm.MethodName) prog_6_method_12_code (5 : Nat) (Option.none : Option Jvm.ClassFile.FieldType)) ∈ zw := zw_of (List.mem_of_getElem? (i := 530) (by decide +kernel)) (by decide +kernel)
theorem zw_531 : (Jvm.Cond.methodLink "ReplacementWriter$Groups" (70 : Nat) ({ cls := "java/util/ArrayList", name := "size", desc := "()I" } : Jvm.MethodName)) ∈ zw := zw_of (List.mem_of_getElem? (i := 531) (by decide +kernel)) (by decide +kernel)
theorem zw_532 : (Jvm.Cond.instanceMethod ({ cls := "java/util/ArrayList", name := "size", desc := "()I" } : Jvm.MethodName)) ∈ zw := zw_of (List.mem_of_getElem? (i := 532) (by decide +kernel)) (by decide +kernel)
theorem zw_533 : (Jvm.Cond.selects "java/util/ArrayList" ({ cls := "java/util/ArrayList", name := "size", desc := "()I" } : Jvm.MethodName) ({ cls := "java/util/ArrayList", name := "size", desc := "()I" } : Jvm.MethodName)) ∈ zw := zw_of (List.mem_of_getElem? (i := 533) (by decide +kernel)) (by decide +kernel)
theorem zw_534 : (Jvm.Cond.code ({ cls := "java/util/ArrayList", name := "size", desc := "()I" } : Jvm.MethodName) prog_39_method_8_code (1 : Nat) (Option.some Jvm.ClassFile.FieldType.int)) ∈ zw := zw_of (List.mem_of_getElem? (i := 534) (by decide +kernel)) (by decide +kernel)
theorem zw_535 : (Jvm.Cond.methodLink "ReplacementWriter$Groups" (73 : Nat) ({ cls := "java/util/ArrayList", name := "get", desc := "(I)Ljava/lang/Object;" } : Jvm.MethodName)) ∈ zw := zw_of (List.mem_of_getElem? (i := 535) (by decide +kernel)) (by decide +kernel)
theorem zw_536 : (Jvm.Cond.instanceMethod ({ cls := "java/util/ArrayList", name := "get", desc := "(I)Ljava/lang/Object;" } : Jvm.MethodName)) ∈ zw := zw_of (List.mem_of_getElem? (i := 536) (by decide +kernel)) (by decide +kernel)
theorem zw_537 : (Jvm.Cond.selects "java/util/ArrayList" ({ cls := "java/util/ArrayList", name := "get", desc := "(I)Ljava/lang/Object;" } : Jvm.MethodName) ({ cls := "java/util/ArrayList", name := "get", desc := "(I)Ljava/lang/Object;" } : Jvm.MethodName)) ∈ zw := zw_of (List.mem_of_getElem? (i := 537) (by decide +kernel)) (by decide +kernel)
theorem zw_538 : (Jvm.Cond.code ({ cls := "java/util/ArrayList", name := "get", desc := "(I)Ljava/lang/Object;" } : Jvm.MethodName) prog_39_method_20_code (2 : Nat) (Option.some (Jvm.ClassFile.FieldType.object "java/lang/Object"))) ∈ zw := zw_of (List.mem_of_getElem? (i := 538) (by decide +kernel)) (by decide +kernel)
theorem zw_539 : (Jvm.Cond.methodLink "java/util/ArrayList" (118 : Nat) ({ cls := "java/util/Objects", name := "checkIndex", desc := "(II)I" } : Jvm.MethodName)) ∈ zw := zw_of (List.mem_of_getElem? (i := 539) (by decide +kernel)) (by decide +kernel)
theorem zw_540 : (Jvm.Cond.static ({ cls := "java/util/Objects", name := "checkIndex", desc := "(II)I" } : Jvm.MethodName)) ∈ zw := zw_of (List.mem_of_getElem? (i := 540) (by decide +kernel)) (by decide +kernel)
theorem zw_541 : (Jvm.Cond.code ({ cls := "java/util/Objects", name := "checkIndex", desc := "(II)I" } : Jvm.MethodName) prog_43_method_17_code (2 : Nat) (Option.some Jvm.ClassFile.FieldType.int)) ∈ zw := zw_of (List.mem_of_getElem? (i := 541) (by decide +kernel)) (by decide +kernel)
theorem zw_542 : (Jvm.Cond.methodLink "java/util/Objects" (105 : Nat) ({ cls := "jdk/internal/util/Preconditions", name := "checkIndex", desc := "(IILjava/util/function/BiFunction;)I" } : Jvm.MethodName)) ∈ zw := zw_of (List.mem_of_getElem? (i := 542) (by decide +kernel)) (by decide +kernel)
theorem zw_543 : (Jvm.Cond.static ({ cls := "jdk/internal/util/Preconditions", name := "checkIndex", desc := "(IILjava/util/function/BiFunction;)I" } : Jvm.MethodName)) ∈ zw := zw_of (List.mem_of_getElem? (i := 543) (by decide +kernel)) (by decide +kernel)
theorem zw_544 : (Jvm.Cond.code ({ cls := "jdk/internal/util/Preconditions", name := "checkIndex", desc := "(IILjava/util/function/BiFunction;)I" } : Jvm.MethodName) prog_47_method_11_code (3 : Nat) (Option.some Jvm.ClassFile.FieldType.int)) ∈ zw := zw_of (List.mem_of_getElem? (i := 544) (by decide +kernel)) (by decide +kernel)
theorem zw_545 : (Jvm.Cond.methodLink "java/util/ArrayList" (123 : Nat) ({ cls := "java/util/ArrayList", name := "elementData", desc := "(I)Ljava/lang/Object;" } : Jvm.MethodName)) ∈ zw := zw_of (List.mem_of_getElem? (i := 545) (by decide +kernel)) (by decide +kernel)
theorem zw_546 : (Jvm.Cond.instanceMethod ({ cls := "java/util/ArrayList", name := "elementData", desc := "(I)Ljava/lang/Object;" } : Jvm.MethodName)) ∈ zw := zw_of (List.mem_of_getElem? (i := 546) (by decide +kernel)) (by decide +kernel)
theorem zw_547 : (Jvm.Cond.selects "java/util/ArrayList" ({ cls := "java/util/ArrayList", name := "elementData", desc := "(I)Ljava/lang/Object;" } : Jvm.MethodName) ({ cls := "java/util/ArrayList", name := "elementData", desc := "(I)Ljava/lang/Object;" } : Jvm.MethodName)) ∈ zw := zw_of (List.mem_of_getElem? (i := 547) (by decide +kernel)) (by decide +kernel)
theorem zw_548 : (Jvm.Cond.code ({ cls := "java/util/ArrayList", name := "elementData", desc := "(I)Ljava/lang/Object;" } : Jvm.MethodName) prog_39_method_18_code (2 : Nat) (Option.some (Jvm.ClassFile.FieldType.object "java/lang/Object"))) ∈ zw := zw_of (List.mem_of_getElem? (i := 548) (by decide +kernel)) (by decide +kernel)
theorem zw_549 : (Jvm.Cond.classLink "ReplacementWriter$Groups" (77 : Nat) "ReplacementWriter$Name") ∈ zw := zw_of (List.mem_of_getElem? (i := 549) (by decide +kernel)) (by decide +kernel)
theorem zw_550 : (Jvm.Cond.methodLink "ReplacementWriter$Groups" (82 : Nat) ({ cls := "ReplacementWriter$Name", name := "stands", desc := "(LReplacementWriter$Row;II)Z" } : Jvm.MethodName)) ∈ zw := zw_of (List.mem_of_getElem? (i := 550) (by decide +kernel)) (by decide +kernel)
theorem zw_551 : (Jvm.Cond.instanceMethod ({ cls := "ReplacementWriter$Name", name := "stands", desc := "(LReplacementWriter$Row;II)Z" } : Jvm.MethodName)) ∈ zw := zw_of (List.mem_of_getElem? (i := 551) (by decide +kernel)) (by decide +kernel)
theorem zw_552 : (Jvm.Cond.selects "ReplacementWriter$Name" ({ cls := "ReplacementWriter$Name", name := "stands", desc := "(LReplacementWriter$Row;II)Z" } : Jvm.MethodName) ({ cls := "ReplacementWriter$Name", name := "stands", desc := "(LReplacementWriter$Row;II)Z" } : Jvm.MethodName)) ∈ zw := zw_of (List.mem_of_getElem? (i := 552) (by decide +kernel)) (by decide +kernel)
theorem zw_553 : (Jvm.Cond.code ({ cls := "ReplacementWriter$Name", name := "stands", desc := "(LReplacementWriter$Row;II)Z" } : Jvm.MethodName) prog_7_method_2_code (5 : Nat) (Option.some Jvm.ClassFile.FieldType.boolean)) ∈ zw := zw_of (List.mem_of_getElem? (i := 553) (by decide +kernel)) (by decide +kernel)
theorem zw_554 : (Jvm.Cond.methodLink "ReplacementWriter$Name" (17 : Nat) ({ cls := "ReplacementWriter$Row", name := "at", desc := "(I)I" } : Jvm.MethodName)) ∈ zw := zw_of (List.mem_of_getElem? (i := 554) (by decide +kernel)) (by decide +kernel)
theorem zw_555 : (Jvm.Cond.instantiable "ReplacementWriter$Name" (2 : Nat)) ∈ zw := zw_of (List.mem_of_getElem? (i := 555) (by decide +kernel)) (by decide +kernel)
theorem zw_556 : (Jvm.Cond.methodLink "ReplacementWriter$Groups" (86 : Nat) ({ cls := "ReplacementWriter$Row", name := "copyOfBytes", desc := "()[B" } : Jvm.MethodName)) ∈ zw := zw_of (List.mem_of_getElem? (i := 556) (by decide +kernel)) (by decide +kernel)
theorem zw_557 : (Jvm.Cond.instanceMethod ({ cls := "ReplacementWriter$Row", name := "copyOfBytes", desc := "()[B" } : Jvm.MethodName)) ∈ zw := zw_of (List.mem_of_getElem? (i := 557) (by decide +kernel)) (by decide +kernel)
theorem zw_558 : (Jvm.Cond.selects "ReplacementWriter$Row" ({ cls := "ReplacementWriter$Row", name := "copyOfBytes", desc := "()[B" } : Jvm.MethodName) ({ cls := "ReplacementWriter$Row", name := "copyOfBytes", desc := "()[B" } : Jvm.MethodName)) ∈ zw := zw_of (List.mem_of_getElem? (i := 558) (by decide +kernel)) (by decide +kernel)
theorem zw_559 : (Jvm.Cond.code ({ cls := "ReplacementWriter$Row", name := "copyOfBytes", desc := "()[B" } : Jvm.MethodName) prog_9_method_7_code (1 : Nat) (Option.some (Jvm.ClassFile.FieldType.array Jvm.ClassFile.FieldType.byte))) ∈ zw := zw_of (List.mem_of_getElem? (i := 559) (by decide +kernel)) (by decide +kernel)
theorem zw_560 : (Jvm.Cond.methodLink "ReplacementWriter$Groups" (90 : Nat) ({ cls := "ReplacementWriter$Name", name := "<init>", desc := "([BI)V" } : Jvm.MethodName)) ∈ zw := zw_of (List.mem_of_getElem? (i := 560) (by decide +kernel)) (by decide +kernel)
theorem zw_561 : (Jvm.Cond.instanceMethod ({ cls := "ReplacementWriter$Name", name := "<init>", desc := "([BI)V" } : Jvm.MethodName)) ∈ zw := zw_of (List.mem_of_getElem? (i := 561) (by decide +kernel)) (by decide +kernel)
theorem zw_562 : (Jvm.Cond.code ({ cls := "ReplacementWriter$Name", name := "<init>", desc := "([BI)V" } : Jvm.MethodName) prog_7_method_1_code (3 : Nat) (Option.none : Option Jvm.ClassFile.FieldType)) ∈ zw := zw_of (List.mem_of_getElem? (i := 562) (by decide +kernel)) (by decide +kernel)
theorem zw_563 : (Jvm.Cond.methodLink "ReplacementWriter$Name" (1 : Nat) ({ cls := "java/lang/Object", name := "<init>", desc := "()V" } : Jvm.MethodName)) ∈ zw := zw_of (List.mem_of_getElem? (i := 563) (by decide +kernel)) (by decide +kernel)
theorem zw_564 : (Jvm.Cond.fieldLink "ReplacementWriter$Name" (7 : Nat) "ReplacementWriter$Name" "letters" "[B") ∈ zw := zw_of (List.mem_of_getElem? (i := 564) (by decide +kernel)) (by decide +kernel)
theorem zw_565 : (Jvm.Cond.fieldLink "ReplacementWriter$Name" (13 : Nat) "ReplacementWriter$Name" "group" "I") ∈ zw := zw_of (List.mem_of_getElem? (i := 565) (by decide +kernel)) (by decide +kernel)
theorem zw_567 : (Jvm.Cond.laysFinal "ReplacementWriter$Name" "ReplacementWriter$Name" "letters" "[B") ∈ zw := zw_of (List.mem_of_getElem? (i := 567) (by decide +kernel)) (by decide +kernel)
theorem zw_569 : (Jvm.Cond.laysFinal "ReplacementWriter$Name" "ReplacementWriter$Name" "group" "I") ∈ zw := zw_of (List.mem_of_getElem? (i := 569) (by decide +kernel)) (by decide +kernel)
theorem zw_572 : (Jvm.Cond.methodLink "ReplacementWriter$Groups" (93 : Nat) ({ cls := "java/util/ArrayList", name := "add", desc := "(Ljava/lang/Object;)Z" } : Jvm.MethodName)) ∈ zw := zw_of (List.mem_of_getElem? (i := 572) (by decide +kernel)) (by decide +kernel)
theorem zw_573 : (Jvm.Cond.instanceMethod ({ cls := "java/util/ArrayList", name := "add", desc := "(Ljava/lang/Object;)Z" } : Jvm.MethodName)) ∈ zw := zw_of (List.mem_of_getElem? (i := 573) (by decide +kernel)) (by decide +kernel)
theorem zw_574 : (Jvm.Cond.selects "java/util/ArrayList" ({ cls := "java/util/ArrayList", name := "add", desc := "(Ljava/lang/Object;)Z" } : Jvm.MethodName) ({ cls := "java/util/ArrayList", name := "add", desc := "(Ljava/lang/Object;)Z" } : Jvm.MethodName)) ∈ zw := zw_of (List.mem_of_getElem? (i := 574) (by decide +kernel)) (by decide +kernel)
theorem zw_575 : (Jvm.Cond.code ({ cls := "java/util/ArrayList", name := "add", desc := "(Ljava/lang/Object;)Z" } : Jvm.MethodName) prog_39_method_25_code (2 : Nat) (Option.some Jvm.ClassFile.FieldType.boolean)) ∈ zw := zw_of (List.mem_of_getElem? (i := 575) (by decide +kernel)) (by decide +kernel)
theorem zw_576 : (Jvm.Cond.methodLink "java/util/ArrayList" (131 : Nat) ({ cls := "java/util/ArrayList", name := "add", desc := "(Ljava/lang/Object;[Ljava/lang/Object;I)V" } : Jvm.MethodName)) ∈ zw := zw_of (List.mem_of_getElem? (i := 576) (by decide +kernel)) (by decide +kernel)
theorem zw_578 : (Jvm.Cond.instanceMethod ({ cls := "java/util/ArrayList", name := "add", desc := "(Ljava/lang/Object;[Ljava/lang/Object;I)V" } : Jvm.MethodName)) ∈ zw := zw_of (List.mem_of_getElem? (i := 578) (by decide +kernel)) (by decide +kernel)
theorem zw_579 : (Jvm.Cond.code ({ cls := "java/util/ArrayList", name := "add", desc := "(Ljava/lang/Object;[Ljava/lang/Object;I)V" } : Jvm.MethodName) prog_39_method_24_code (4 : Nat) (Option.none : Option Jvm.ClassFile.FieldType)) ∈ zw := zw_of (List.mem_of_getElem? (i := 579) (by decide +kernel)) (by decide +kernel)
theorem zw_580 : (Jvm.Cond.methodLink "java/util/ArrayList" (129 : Nat) ({ cls := "java/util/ArrayList", name := "grow", desc := "()[Ljava/lang/Object;" } : Jvm.MethodName)) ∈ zw := zw_of (List.mem_of_getElem? (i := 580) (by decide +kernel)) (by decide +kernel)
theorem zw_582 : (Jvm.Cond.instanceMethod ({ cls := "java/util/ArrayList", name := "grow", desc := "()[Ljava/lang/Object;" } : Jvm.MethodName)) ∈ zw := zw_of (List.mem_of_getElem? (i := 582) (by decide +kernel)) (by decide +kernel)
theorem zw_583 : (Jvm.Cond.code ({ cls := "java/util/ArrayList", name := "grow", desc := "()[Ljava/lang/Object;" } : Jvm.MethodName) prog_39_method_7_code (1 : Nat) (Option.some (Jvm.ClassFile.FieldType.array (Jvm.ClassFile.FieldType.object "java/lang/Object")))) ∈ zw := zw_of (List.mem_of_getElem? (i := 583) (by decide +kernel)) (by decide +kernel)
theorem zw_584 : (Jvm.Cond.methodLink "java/util/ArrayList" (69 : Nat) ({ cls := "java/util/ArrayList", name := "grow", desc := "(I)[Ljava/lang/Object;" } : Jvm.MethodName)) ∈ zw := zw_of (List.mem_of_getElem? (i := 584) (by decide +kernel)) (by decide +kernel)
theorem zw_586 : (Jvm.Cond.instanceMethod ({ cls := "java/util/ArrayList", name := "grow", desc := "(I)[Ljava/lang/Object;" } : Jvm.MethodName)) ∈ zw := zw_of (List.mem_of_getElem? (i := 586) (by decide +kernel)) (by decide +kernel)
theorem zw_587 : (Jvm.Cond.code ({ cls := "java/util/ArrayList", name := "grow", desc := "(I)[Ljava/lang/Object;" } : Jvm.MethodName) prog_39_method_6_code (4 : Nat) (Option.some (Jvm.ClassFile.FieldType.array (Jvm.ClassFile.FieldType.object "java/lang/Object")))) ∈ zw := zw_of (List.mem_of_getElem? (i := 587) (by decide +kernel)) (by decide +kernel)
theorem zw_588 : (Jvm.Cond.methodLink "java/util/ArrayList" (73 : Nat) ({ cls := "jdk/internal/util/ArraysSupport", name := "newLength", desc := "(III)I" } : Jvm.MethodName)) ∈ zw := zw_of (List.mem_of_getElem? (i := 588) (by decide +kernel)) (by decide +kernel)
theorem zw_589 : (Jvm.Cond.static ({ cls := "jdk/internal/util/ArraysSupport", name := "newLength", desc := "(III)I" } : Jvm.MethodName)) ∈ zw := zw_of (List.mem_of_getElem? (i := 589) (by decide +kernel)) (by decide +kernel)
theorem zw_590 : (Jvm.Cond.code ({ cls := "jdk/internal/util/ArraysSupport", name := "newLength", desc := "(III)I" } : Jvm.MethodName) prog_46_method_27_code (4 : Nat) (Option.some Jvm.ClassFile.FieldType.int)) ∈ zw := zw_of (List.mem_of_getElem? (i := 590) (by decide +kernel)) (by decide +kernel)
theorem zw_591 : (Jvm.Cond.methodLink "jdk/internal/util/ArraysSupport" (194 : Nat) ({ cls := "java/lang/Math", name := "max", desc := "(II)I" } : Jvm.MethodName)) ∈ zw := zw_of (List.mem_of_getElem? (i := 591) (by decide +kernel)) (by decide +kernel)
theorem zw_592 : (Jvm.Cond.constant "jdk/internal/util/ArraysSupport" (200 : Nat) (2147483639 : Int32)) ∈ zw := zw_of (List.mem_of_getElem? (i := 592) (by decide +kernel)) (by decide +kernel)
theorem zw_593 : (Jvm.Cond.methodLink "jdk/internal/util/ArraysSupport" (201 : Nat) ({ cls := "jdk/internal/util/ArraysSupport", name := "hugeLength", desc := "(II)I" } : Jvm.MethodName)) ∈ zw := zw_of (List.mem_of_getElem? (i := 593) (by decide +kernel)) (by decide +kernel)
theorem zw_594 : (Jvm.Cond.static ({ cls := "jdk/internal/util/ArraysSupport", name := "hugeLength", desc := "(II)I" } : Jvm.MethodName)) ∈ zw := zw_of (List.mem_of_getElem? (i := 594) (by decide +kernel)) (by decide +kernel)
theorem zw_595 : (Jvm.Cond.code ({ cls := "jdk/internal/util/ArraysSupport", name := "hugeLength", desc := "(II)I" } : Jvm.MethodName) prog_46_method_28_code (3 : Nat) (Option.some Jvm.ClassFile.FieldType.int)) ∈ zw := zw_of (List.mem_of_getElem? (i := 595) (by decide +kernel)) (by decide +kernel)
theorem zw_596 : (Jvm.Cond.methodLink "java/util/ArrayList" (66 : Nat) ({ cls := "java/util/Arrays", name := "copyOf", desc := "([Ljava/lang/Object;I)[Ljava/lang/Object;" } : Jvm.MethodName)) ∈ zw := zw_of (List.mem_of_getElem? (i := 596) (by decide +kernel)) (by decide +kernel)
theorem zw_597 : (Jvm.Cond.static ({ cls := "java/util/Arrays", name := "copyOf", desc := "([Ljava/lang/Object;I)[Ljava/lang/Object;" } : Jvm.MethodName)) ∈ zw := zw_of (List.mem_of_getElem? (i := 597) (by decide +kernel)) (by decide +kernel)
theorem zw_598 : (Jvm.Cond.code ({ cls := "java/util/Arrays", name := "copyOf", desc := "([Ljava/lang/Object;I)[Ljava/lang/Object;" } : Jvm.MethodName) prog_40_method_119_code (2 : Nat) (Option.some (Jvm.ClassFile.FieldType.array (Jvm.ClassFile.FieldType.object "java/lang/Object")))) ∈ zw := zw_of (List.mem_of_getElem? (i := 598) (by decide +kernel)) (by decide +kernel)
theorem zw_599 : (Jvm.Cond.methodLink "java/util/Arrays" (86 : Nat) ({ cls := "java/lang/Object", name := "getClass", desc := "()Ljava/lang/Class;" } : Jvm.MethodName)) ∈ zw := zw_of (List.mem_of_getElem? (i := 599) (by decide +kernel)) (by decide +kernel)
theorem zw_600 : (Jvm.Cond.instanceMethod ({ cls := "java/lang/Object", name := "getClass", desc := "()Ljava/lang/Class;" } : Jvm.MethodName)) ∈ zw := zw_of (List.mem_of_getElem? (i := 600) (by decide +kernel)) (by decide +kernel)
theorem zw_602 : (Jvm.Cond.selects "ReplacementWriter" ({ cls := "java/lang/Object", name := "getClass", desc := "()Ljava/lang/Class;" } : Jvm.MethodName) ({ cls := "java/lang/Object", name := "getClass", desc := "()Ljava/lang/Class;" } : Jvm.MethodName)) ∈ zw := zw_of (List.mem_of_getElem? (i := 602) (by decide +kernel)) (by decide +kernel)
theorem zw_603 : (Jvm.Cond.selects "ReplacementWriter$Cases" ({ cls := "java/lang/Object", name := "getClass", desc := "()Ljava/lang/Class;" } : Jvm.MethodName) ({ cls := "java/lang/Object", name := "getClass", desc := "()Ljava/lang/Class;" } : Jvm.MethodName)) ∈ zw := zw_of (List.mem_of_getElem? (i := 603) (by decide +kernel)) (by decide +kernel)
theorem zw_604 : (Jvm.Cond.selects "ReplacementWriter$Encoding" ({ cls := "java/lang/Object", name := "getClass", desc := "()Ljava/lang/Class;" } : Jvm.MethodName) ({ cls := "java/lang/Object", name := "getClass", desc := "()Ljava/lang/Class;" } : Jvm.MethodName)) ∈ zw := zw_of (List.mem_of_getElem? (i := 604) (by decide +kernel)) (by decide +kernel)
theorem zw_605 : (Jvm.Cond.selects "ReplacementWriter$Escape" ({ cls := "java/lang/Object", name := "getClass", desc := "()Ljava/lang/Class;" } : Jvm.MethodName) ({ cls := "java/lang/Object", name := "getClass", desc := "()Ljava/lang/Class;" } : Jvm.MethodName)) ∈ zw := zw_of (List.mem_of_getElem? (i := 605) (by decide +kernel)) (by decide +kernel)
theorem zw_606 : (Jvm.Cond.selects "ReplacementWriter$Groups" ({ cls := "java/lang/Object", name := "getClass", desc := "()Ljava/lang/Class;" } : Jvm.MethodName) ({ cls := "java/lang/Object", name := "getClass", desc := "()Ljava/lang/Class;" } : Jvm.MethodName)) ∈ zw := zw_of (List.mem_of_getElem? (i := 606) (by decide +kernel)) (by decide +kernel)
theorem zw_607 : (Jvm.Cond.selects "ReplacementWriter$Name" ({ cls := "java/lang/Object", name := "getClass", desc := "()Ljava/lang/Class;" } : Jvm.MethodName) ({ cls := "java/lang/Object", name := "getClass", desc := "()Ljava/lang/Class;" } : Jvm.MethodName)) ∈ zw := zw_of (List.mem_of_getElem? (i := 607) (by decide +kernel)) (by decide +kernel)
theorem zw_608 : (Jvm.Cond.selects "ReplacementWriter$Output" ({ cls := "java/lang/Object", name := "getClass", desc := "()Ljava/lang/Class;" } : Jvm.MethodName) ({ cls := "java/lang/Object", name := "getClass", desc := "()Ljava/lang/Class;" } : Jvm.MethodName)) ∈ zw := zw_of (List.mem_of_getElem? (i := 608) (by decide +kernel)) (by decide +kernel)
theorem zw_609 : (Jvm.Cond.selects "ReplacementWriter$Row" ({ cls := "java/lang/Object", name := "getClass", desc := "()Ljava/lang/Class;" } : Jvm.MethodName) ({ cls := "java/lang/Object", name := "getClass", desc := "()Ljava/lang/Class;" } : Jvm.MethodName)) ∈ zw := zw_of (List.mem_of_getElem? (i := 609) (by decide +kernel)) (by decide +kernel)
theorem zw_610 : (Jvm.Cond.selects "ReplacementWriter$Turn" ({ cls := "java/lang/Object", name := "getClass", desc := "()Ljava/lang/Class;" } : Jvm.MethodName) ({ cls := "java/lang/Object", name := "getClass", desc := "()Ljava/lang/Class;" } : Jvm.MethodName)) ∈ zw := zw_of (List.mem_of_getElem? (i := 610) (by decide +kernel)) (by decide +kernel)
theorem zw_611 : (Jvm.Cond.selects "ReplacementWriter$Writing" ({ cls := "java/lang/Object", name := "getClass", desc := "()Ljava/lang/Class;" } : Jvm.MethodName) ({ cls := "java/lang/Object", name := "getClass", desc := "()Ljava/lang/Class;" } : Jvm.MethodName)) ∈ zw := zw_of (List.mem_of_getElem? (i := 611) (by decide +kernel)) (by decide +kernel)
theorem zw_612 : (Jvm.Cond.selects "ReplacementWriterModel" ({ cls := "java/lang/Object", name := "getClass", desc := "()Ljava/lang/Class;" } : Jvm.MethodName) ({ cls := "java/lang/Object", name := "getClass", desc := "()Ljava/lang/Class;" } : Jvm.MethodName)) ∈ zw := zw_of (List.mem_of_getElem? (i := 612) (by decide +kernel)) (by decide +kernel)
theorem zw_613 : (Jvm.Cond.selects "ReplacementWriterModel$Holder" ({ cls := "java/lang/Object", name := "getClass", desc := "()Ljava/lang/Class;" } : Jvm.MethodName) ({ cls := "java/lang/Object", name := "getClass", desc := "()Ljava/lang/Class;" } : Jvm.MethodName)) ∈ zw := zw_of (List.mem_of_getElem? (i := 613) (by decide +kernel)) (by decide +kernel)
theorem zw_614 : (Jvm.Cond.selects "ReplacementWriterModel$Table" ({ cls := "java/lang/Object", name := "getClass", desc := "()Ljava/lang/Class;" } : Jvm.MethodName) ({ cls := "java/lang/Object", name := "getClass", desc := "()Ljava/lang/Class;" } : Jvm.MethodName)) ∈ zw := zw_of (List.mem_of_getElem? (i := 614) (by decide +kernel)) (by decide +kernel)
theorem zw_615 : (Jvm.Cond.selects "ReplacementWriterModel$Template" ({ cls := "java/lang/Object", name := "getClass", desc := "()Ljava/lang/Class;" } : Jvm.MethodName) ({ cls := "java/lang/Object", name := "getClass", desc := "()Ljava/lang/Class;" } : Jvm.MethodName)) ∈ zw := zw_of (List.mem_of_getElem? (i := 615) (by decide +kernel)) (by decide +kernel)
theorem zw_616 : (Jvm.Cond.selects "java/lang/IllegalArgumentException" ({ cls := "java/lang/Object", name := "getClass", desc := "()Ljava/lang/Class;" } : Jvm.MethodName) ({ cls := "java/lang/Object", name := "getClass", desc := "()Ljava/lang/Class;" } : Jvm.MethodName)) ∈ zw := zw_of (List.mem_of_getElem? (i := 616) (by decide +kernel)) (by decide +kernel)
theorem zw_617 : (Jvm.Cond.selects "java/lang/IllegalStateException" ({ cls := "java/lang/Object", name := "getClass", desc := "()Ljava/lang/Class;" } : Jvm.MethodName) ({ cls := "java/lang/Object", name := "getClass", desc := "()Ljava/lang/Class;" } : Jvm.MethodName)) ∈ zw := zw_of (List.mem_of_getElem? (i := 617) (by decide +kernel)) (by decide +kernel)
theorem zw_618 : (Jvm.Cond.selects "java/lang/IndexOutOfBoundsException" ({ cls := "java/lang/Object", name := "getClass", desc := "()Ljava/lang/Class;" } : Jvm.MethodName) ({ cls := "java/lang/Object", name := "getClass", desc := "()Ljava/lang/Class;" } : Jvm.MethodName)) ∈ zw := zw_of (List.mem_of_getElem? (i := 618) (by decide +kernel)) (by decide +kernel)
theorem zw_619 : (Jvm.Cond.selects "java/lang/Integer" ({ cls := "java/lang/Object", name := "getClass", desc := "()Ljava/lang/Class;" } : Jvm.MethodName) ({ cls := "java/lang/Object", name := "getClass", desc := "()Ljava/lang/Class;" } : Jvm.MethodName)) ∈ zw := zw_of (List.mem_of_getElem? (i := 619) (by decide +kernel)) (by decide +kernel)
theorem zw_620 : (Jvm.Cond.selects "java/lang/UnsupportedOperationException" ({ cls := "java/lang/Object", name := "getClass", desc := "()Ljava/lang/Class;" } : Jvm.MethodName) ({ cls := "java/lang/Object", name := "getClass", desc := "()Ljava/lang/Class;" } : Jvm.MethodName)) ∈ zw := zw_of (List.mem_of_getElem? (i := 620) (by decide +kernel)) (by decide +kernel)
theorem zw_621 : (Jvm.Cond.selects "java/util/ArrayList" ({ cls := "java/lang/Object", name := "getClass", desc := "()Ljava/lang/Class;" } : Jvm.MethodName) ({ cls := "java/lang/Object", name := "getClass", desc := "()Ljava/lang/Class;" } : Jvm.MethodName)) ∈ zw := zw_of (List.mem_of_getElem? (i := 621) (by decide +kernel)) (by decide +kernel)
theorem zw_623 : (Jvm.Cond.methodLink "java/util/Arrays" (300 : Nat) ({ cls := "java/util/Arrays", name := "copyOf", desc := "([Ljava/lang/Object;ILjava/lang/Class;)[Ljava/lang/Object;" } : Jvm.MethodName)) ∈ zw := zw_of (List.mem_of_getElem? (i := 623) (by decide +kernel)) (by decide +kernel)
theorem zw_624 : (Jvm.Cond.static ({ cls := "java/util/Arrays", name := "copyOf", desc := "([Ljava/lang/Object;ILjava/lang/Class;)[Ljava/lang/Object;" } : Jvm.MethodName)) ∈ zw := zw_of (List.mem_of_getElem? (i := 624) (by decide +kernel)) (by decide +kernel)
theorem zw_625 : (Jvm.Cond.code ({ cls := "java/util/Arrays", name := "copyOf", desc := "([Ljava/lang/Object;ILjava/lang/Class;)[Ljava/lang/Object;" } : Jvm.MethodName) prog_40_method_120_code (4 : Nat) (Option.some (Jvm.ClassFile.FieldType.array (Jvm.ClassFile.FieldType.object "java/lang/Object")))) ∈ zw := zw_of (List.mem_of_getElem? (i := 625) (by decide +kernel)) (by decide +kernel)
theorem zw_626 : (Jvm.Cond.classLink "java/util/Arrays" (110 : Nat) "[Ljava/lang/Object;") ∈ zw := zw_of (List.mem_of_getElem? (i := 626) (by decide +kernel)) (by decide +kernel)
theorem zw_628 : (Jvm.Cond.classLink "java/util/Arrays" (2 : Nat) "java/lang/Object") ∈ zw := zw_of (List.mem_of_getElem? (i := 628) (by decide +kernel)) (by decide +kernel)
theorem zw_629 : (Jvm.Cond.methodLink "java/util/ArrayList" (79 : Nat) ({ cls := "java/lang/Math", name := "max", desc := "(II)I" } : Jvm.MethodName)) ∈ zw := zw_of (List.mem_of_getElem? (i := 629) (by decide +kernel)) (by decide +kernel)
theorem zw_630 : (Jvm.Cond.classLink "java/util/ArrayList" (7 : Nat) "java/lang/Object") ∈ zw := zw_of (List.mem_of_getElem? (i := 630) (by decide +kernel)) (by decide +kernel)
theorem zw_631 : (Jvm.Cond.methodLink "ReplacementWriterLaw" (86 : Nat) ({ cls := "ReplacementWriterLaw", name := "mark", desc := "(LReplacementWriter;[J)I" } : Jvm.MethodName)) ∈ zw := zw_of (List.mem_of_getElem? (i := 631) (by decide +kernel)) (by decide +kernel)
theorem zw_632 : (Jvm.Cond.static ({ cls := "ReplacementWriterLaw", name := "mark", desc := "(LReplacementWriter;[J)I" } : Jvm.MethodName)) ∈ zw := zw_of (List.mem_of_getElem? (i := 632) (by decide +kernel)) (by decide +kernel)
theorem zw_634 : (Jvm.Cond.methodLink "ReplacementWriterLaw" (36 : Nat) ({ cls := "ReplacementWriter", name := "mark", desc := "()I" } : Jvm.MethodName)) ∈ zw := zw_of (List.mem_of_getElem? (i := 634) (by decide +kernel)) (by decide +kernel)
theorem zw_635 : (Jvm.Cond.instanceMethod ({ cls := "ReplacementWriter", name := "mark", desc := "()I" } : Jvm.MethodName)) ∈ zw := zw_of (List.mem_of_getElem? (i := 635) (by decide +kernel)) (by decide +kernel)
theorem zw_636 : (Jvm.Cond.selects "ReplacementWriter" ({ cls := "ReplacementWriter", name := "mark", desc := "()I" } : Jvm.MethodName) ({ cls := "ReplacementWriter", name := "mark", desc := "()I" } : Jvm.MethodName)) ∈ zw := zw_of (List.mem_of_getElem? (i := 636) (by decide +kernel)) (by decide +kernel)
theorem zw_637 : (Jvm.Cond.code ({ cls := "ReplacementWriter", name := "mark", desc := "()I" } : Jvm.MethodName) prog_1_method_9_code (1 : Nat) (Option.some Jvm.ClassFile.FieldType.int)) ∈ zw := zw_of (List.mem_of_getElem? (i := 637) (by decide +kernel)) (by decide +kernel)
theorem zw_638 : (Jvm.Cond.methodLink "ReplacementWriter" (118 : Nat) ({ cls := "ReplacementWriter$Groups", name := "holdMark", desc := "(LReplacementWriter$Row;)V" } : Jvm.MethodName)) ∈ zw := zw_of (List.mem_of_getElem? (i := 638) (by decide +kernel)) (by decide +kernel)
theorem zw_639 : (Jvm.Cond.instanceMethod ({ cls := "ReplacementWriter$Groups", name := "holdMark", desc := "(LReplacementWriter$Row;)V" } : Jvm.MethodName)) ∈ zw := zw_of (List.mem_of_getElem? (i := 639) (by decide +kernel)) (by decide +kernel)
theorem zw_640 : (Jvm.Cond.selects "ReplacementWriter$Groups" ({ cls := "ReplacementWriter$Groups", name := "holdMark", desc := "(LReplacementWriter$Row;)V" } : Jvm.MethodName) ({ cls := "ReplacementWriter$Groups", name := "holdMark", desc := "(LReplacementWriter$Row;)V" } : Jvm.MethodName)) ∈ zw := zw_of (List.mem_of_getElem? (i := 640) (by decide +kernel)) (by decide +kernel)
theorem zw_641 : (Jvm.Cond.code ({ cls := "ReplacementWriter$Groups", name := "holdMark", desc := "(LReplacementWriter$Row;)V" } : Jvm.MethodName) prog_6_method_9_code (2 : Nat) (Option.none : Option Jvm.ClassFile.FieldType)) ∈ zw := zw_of (List.mem_of_getElem? (i := 641) (by decide +kernel)) (by decide +kernel)
theorem zw_642 : (Jvm.Cond.methodLink "ReplacementWriterLaw" (90 : Nat) ({ cls := "ReplacementWriterLaw", name := "write", desc := "(LReplacementWriter;I[J)I" } : Jvm.MethodName)) ∈ zw := zw_of (List.mem_of_getElem? (i := 642) (by decide +kernel)) (by decide +kernel)
theorem zw_643 : (Jvm.Cond.static ({ cls := "ReplacementWriterLaw", name := "write", desc := "(LReplacementWriter;I[J)I" } : Jvm.MethodName)) ∈ zw := zw_of (List.mem_of_getElem? (i := 643) (by decide +kernel)) (by decide +kernel)
theorem zw_645 : (Jvm.Cond.methodLink "ReplacementWriterLaw" (40 : Nat) ({ cls := "ReplacementWriter", name := "write", desc := "(I)I" } : Jvm.MethodName)) ∈ zw := zw_of (List.mem_of_getElem? (i := 645) (by decide +kernel)) (by decide +kernel)
theorem zw_646 : (Jvm.Cond.instanceMethod ({ cls := "ReplacementWriter", name := "write", desc := "(I)I" } : Jvm.MethodName)) ∈ zw := zw_of (List.mem_of_getElem? (i := 646) (by decide +kernel)) (by decide +kernel)
theorem zw_647 : (Jvm.Cond.selects "ReplacementWriter" ({ cls := "ReplacementWriter", name := "write", desc := "(I)I" } : Jvm.MethodName) ({ cls := "ReplacementWriter", name := "write", desc := "(I)I" } : Jvm.MethodName)) ∈ zw := zw_of (List.mem_of_getElem? (i := 647) (by decide +kernel)) (by decide +kernel)
theorem zw_648 : (Jvm.Cond.code ({ cls := "ReplacementWriter", name := "write", desc := "(I)I" } : Jvm.MethodName) prog_1_method_11_code (3 : Nat) (Option.some Jvm.ClassFile.FieldType.int)) ∈ zw := zw_of (List.mem_of_getElem? (i := 648) (by decide +kernel)) (by decide +kernel)
theorem zw_649 : (Jvm.Cond.methodLink "ReplacementWriter" (125 : Nat) ({ cls := "ReplacementWriter$Output", name := "startAnew", desc := "()V" } : Jvm.MethodName)) ∈ zw := zw_of (List.mem_of_getElem? (i := 649) (by decide +kernel)) (by decide +kernel)
theorem zw_650 : (Jvm.Cond.instanceMethod ({ cls := "ReplacementWriter$Output", name := "startAnew", desc := "()V" } : Jvm.MethodName)) ∈ zw := zw_of (List.mem_of_getElem? (i := 650) (by decide +kernel)) (by decide +kernel)
theorem zw_651 : (Jvm.Cond.selects "ReplacementWriter$Output" ({ cls := "ReplacementWriter$Output", name := "startAnew", desc := "()V" } : Jvm.MethodName) ({ cls := "ReplacementWriter$Output", name := "startAnew", desc := "()V" } : Jvm.MethodName)) ∈ zw := zw_of (List.mem_of_getElem? (i := 651) (by decide +kernel)) (by decide +kernel)
theorem zw_652 : (Jvm.Cond.code ({ cls := "ReplacementWriter$Output", name := "startAnew", desc := "()V" } : Jvm.MethodName) prog_8_method_2_code (1 : Nat) (Option.none : Option Jvm.ClassFile.FieldType)) ∈ zw := zw_of (List.mem_of_getElem? (i := 652) (by decide +kernel)) (by decide +kernel)
theorem zw_653 : (Jvm.Cond.methodLink "ReplacementWriter$Output" (45 : Nat) ({ cls := "ReplacementWriter$Row", name := "cutTo", desc := "(I)V" } : Jvm.MethodName)) ∈ zw := zw_of (List.mem_of_getElem? (i := 653) (by decide +kernel)) (by decide +kernel)
theorem zw_654 : (Jvm.Cond.methodLink "ReplacementWriter" (127 : Nat) ({ cls := "ReplacementWriter$Writing", name := "startAnew", desc := "(I)V" } : Jvm.MethodName)) ∈ zw := zw_of (List.mem_of_getElem? (i := 654) (by decide +kernel)) (by decide +kernel)
theorem zw_655 : (Jvm.Cond.instanceMethod ({ cls := "ReplacementWriter$Writing", name := "startAnew", desc := "(I)V" } : Jvm.MethodName)) ∈ zw := zw_of (List.mem_of_getElem? (i := 655) (by decide +kernel)) (by decide +kernel)
theorem zw_656 : (Jvm.Cond.selects "ReplacementWriter$Writing" ({ cls := "ReplacementWriter$Writing", name := "startAnew", desc := "(I)V" } : Jvm.MethodName) ({ cls := "ReplacementWriter$Writing", name := "startAnew", desc := "(I)V" } : Jvm.MethodName)) ∈ zw := zw_of (List.mem_of_getElem? (i := 656) (by decide +kernel)) (by decide +kernel)
theorem zw_657 : (Jvm.Cond.code ({ cls := "ReplacementWriter$Writing", name := "startAnew", desc := "(I)V" } : Jvm.MethodName) prog_11_method_2_code (2 : Nat) (Option.none : Option Jvm.ClassFile.FieldType)) ∈ zw := zw_of (List.mem_of_getElem? (i := 657) (by decide +kernel)) (by decide +kernel)
theorem zw_658 : (Jvm.Cond.methodLink "ReplacementWriter" (128 : Nat) ({ cls := "ReplacementWriter$Writing", name := "fail", desc := "(II)I" } : Jvm.MethodName)) ∈ zw := zw_of (List.mem_of_getElem? (i := 658) (by decide +kernel)) (by decide +kernel)
theorem zw_659 : (Jvm.Cond.instanceMethod ({ cls := "ReplacementWriter$Writing", name := "fail", desc := "(II)I" } : Jvm.MethodName)) ∈ zw := zw_of (List.mem_of_getElem? (i := 659) (by decide +kernel)) (by decide +kernel)
theorem zw_660 : (Jvm.Cond.selects "ReplacementWriter$Writing" ({ cls := "ReplacementWriter$Writing", name := "fail", desc := "(II)I" } : Jvm.MethodName) ({ cls := "ReplacementWriter$Writing", name := "fail", desc := "(II)I" } : Jvm.MethodName)) ∈ zw := zw_of (List.mem_of_getElem? (i := 660) (by decide +kernel)) (by decide +kernel)
theorem zw_661 : (Jvm.Cond.code ({ cls := "ReplacementWriter$Writing", name := "fail", desc := "(II)I" } : Jvm.MethodName) prog_11_method_5_code (3 : Nat) (Option.some Jvm.ClassFile.FieldType.int)) ∈ zw := zw_of (List.mem_of_getElem? (i := 661) (by decide +kernel)) (by decide +kernel)
theorem zw_662 : (Jvm.Cond.methodLink "ReplacementWriter$Writing" (53 : Nat) ({ cls := "ReplacementWriter$Row", name := "length", desc := "()I" } : Jvm.MethodName)) ∈ zw := zw_of (List.mem_of_getElem? (i := 662) (by decide +kernel)) (by decide +kernel)
theorem zw_663 : (Jvm.Cond.methodLink "ReplacementWriter" (132 : Nat) ({ cls := "ReplacementWriter$Output", name := "copy", desc := "(LReplacementWriter$Row;II)V" } : Jvm.MethodName)) ∈ zw := zw_of (List.mem_of_getElem? (i := 663) (by decide +kernel)) (by decide +kernel)
theorem zw_664 : (Jvm.Cond.instanceMethod ({ cls := "ReplacementWriter$Output", name := "copy", desc := "(LReplacementWriter$Row;II)V" } : Jvm.MethodName)) ∈ zw := zw_of (List.mem_of_getElem? (i := 664) (by decide +kernel)) (by decide +kernel)
theorem zw_665 : (Jvm.Cond.selects "ReplacementWriter$Output" ({ cls := "ReplacementWriter$Output", name := "copy", desc := "(LReplacementWriter$Row;II)V" } : Jvm.MethodName) ({ cls := "ReplacementWriter$Output", name := "copy", desc := "(LReplacementWriter$Row;II)V" } : Jvm.MethodName)) ∈ zw := zw_of (List.mem_of_getElem? (i := 665) (by decide +kernel)) (by decide +kernel)
theorem zw_666 : (Jvm.Cond.code ({ cls := "ReplacementWriter$Output", name := "copy", desc := "(LReplacementWriter$Row;II)V" } : Jvm.MethodName) prog_8_method_7_code (5 : Nat) (Option.none : Option Jvm.ClassFile.FieldType)) ∈ zw := zw_of (List.mem_of_getElem? (i := 666) (by decide +kernel)) (by decide +kernel)
theorem zw_667 : (Jvm.Cond.methodLink "ReplacementWriter$Output" (48 : Nat) ({ cls := "ReplacementWriter$Encoding", name := "characterAt", desc := "(LReplacementWriter$Row;I)I" } : Jvm.MethodName)) ∈ zw := zw_of (List.mem_of_getElem? (i := 667) (by decide +kernel)) (by decide +kernel)
theorem zw_668 : (Jvm.Cond.methodLink "ReplacementWriter$Output" (54 : Nat) ({ cls := "ReplacementWriter$Output", name := "put", desc := "(I)V" } : Jvm.MethodName)) ∈ zw := zw_of (List.mem_of_getElem? (i := 668) (by decide +kernel)) (by decide +kernel)
theorem zw_669 : (Jvm.Cond.instanceMethod ({ cls := "ReplacementWriter$Output", name := "put", desc := "(I)V" } : Jvm.MethodName)) ∈ zw := zw_of (List.mem_of_getElem? (i := 669) (by decide +kernel)) (by decide +kernel)
theorem zw_670 : (Jvm.Cond.selects "ReplacementWriter$Output" ({ cls := "ReplacementWriter$Output", name := "put", desc := "(I)V" } : Jvm.MethodName) ({ cls := "ReplacementWriter$Output", name := "put", desc := "(I)V" } : Jvm.MethodName)) ∈ zw := zw_of (List.mem_of_getElem? (i := 670) (by decide +kernel)) (by decide +kernel)
theorem zw_671 : (Jvm.Cond.code ({ cls := "ReplacementWriter$Output", name := "put", desc := "(I)V" } : Jvm.MethodName) prog_8_method_8_code (5 : Nat) (Option.none : Option Jvm.ClassFile.FieldType)) ∈ zw := zw_of (List.mem_of_getElem? (i := 671) (by decide +kernel)) (by decide +kernel)
theorem zw_672 : (Jvm.Cond.methodLink "ReplacementWriter$Output" (70 : Nat) ({ cls := "ReplacementWriter$Cases", name := "turned", desc := "(ILReplacementWriter$Turn;)I" } : Jvm.MethodName)) ∈ zw := zw_of (List.mem_of_getElem? (i := 672) (by decide +kernel)) (by decide +kernel)
theorem zw_673 : (Jvm.Cond.instanceMethod ({ cls := "ReplacementWriter$Cases", name := "turned", desc := "(ILReplacementWriter$Turn;)I" } : Jvm.MethodName)) ∈ zw := zw_of (List.mem_of_getElem? (i := 673) (by decide +kernel)) (by decide +kernel)
theorem zw_674 : (Jvm.Cond.selects "ReplacementWriter$Cases" ({ cls := "ReplacementWriter$Cases", name := "turned", desc := "(ILReplacementWriter$Turn;)I" } : Jvm.MethodName) ({ cls := "ReplacementWriter$Cases", name := "turned", desc := "(ILReplacementWriter$Turn;)I" } : Jvm.MethodName)) ∈ zw := zw_of (List.mem_of_getElem? (i := 674) (by decide +kernel)) (by decide +kernel)
theorem zw_675 : (Jvm.Cond.code ({ cls := "ReplacementWriter$Cases", name := "turned", desc := "(ILReplacementWriter$Turn;)I" } : Jvm.MethodName) prog_3_method_2_code (8 : Nat) (Option.some Jvm.ClassFile.FieldType.int)) ∈ zw := zw_of (List.mem_of_getElem? (i := 675) (by decide +kernel)) (by decide +kernel)
theorem zw_676 : (Jvm.Cond.fieldLink "ReplacementWriter$Cases" (17 : Nat) "ReplacementWriter$Turn" "AS_IT_IS" "LReplacementWriter$Turn;") ∈ zw := zw_of (List.mem_of_getElem? (i := 676) (by decide +kernel)) (by decide +kernel)
theorem zw_677 : (Jvm.Cond.fieldLink "ReplacementWriter$Cases" (23 : Nat) "ReplacementWriter$Turn" "UPPER" "LReplacementWriter$Turn;") ∈ zw := zw_of (List.mem_of_getElem? (i := 677) (by decide +kernel)) (by decide +kernel)
theorem zw_679 : (Jvm.Cond.methodLink "ReplacementWriter$Cases" (26 : Nat) ({ cls := "ReplacementWriter$Cases", name := "isUpperOf", desc := "(II)Z" } : Jvm.MethodName)) ∈ zw := zw_of (List.mem_of_getElem? (i := 679) (by decide +kernel)) (by decide +kernel)
theorem zw_680 : (Jvm.Cond.static ({ cls := "ReplacementWriter$Cases", name := "isUpperOf", desc := "(II)Z" } : Jvm.MethodName)) ∈ zw := zw_of (List.mem_of_getElem? (i := 680) (by decide +kernel)) (by decide +kernel)
theorem zw_681 : (Jvm.Cond.code ({ cls := "ReplacementWriter$Cases", name := "isUpperOf", desc := "(II)Z" } : Jvm.MethodName) prog_3_method_3_code (4 : Nat) (Option.some Jvm.ClassFile.FieldType.boolean)) ∈ zw := zw_of (List.mem_of_getElem? (i := 681) (by decide +kernel)) (by decide +kernel)
theorem zw_682 : (Jvm.Cond.methodLink "ReplacementWriter$Output" (76 : Nat) ({ cls := "ReplacementWriter$Encoding", name := "lengthOf", desc := "(I)I" } : Jvm.MethodName)) ∈ zw := zw_of (List.mem_of_getElem? (i := 682) (by decide +kernel)) (by decide +kernel)
theorem zw_683 : (Jvm.Cond.methodLink "ReplacementWriter$Output" (79 : Nat) ({ cls := "ReplacementWriter$Row", name := "length", desc := "()I" } : Jvm.MethodName)) ∈ zw := zw_of (List.mem_of_getElem? (i := 683) (by decide +kernel)) (by decide +kernel)
theorem zw_684 : (Jvm.Cond.methodLink "ReplacementWriter$Output" (83 : Nat) ({ cls := "ReplacementWriter$Row", name := "add", desc := "(I)V" } : Jvm.MethodName)) ∈ zw := zw_of (List.mem_of_getElem? (i := 684) (by decide +kernel)) (by decide +kernel)
theorem zw_685 : (Jvm.Cond.methodLink "ReplacementWriter$Output" (57 : Nat) ({ cls := "ReplacementWriter$Row", name := "at", desc := "(I)I" } : Jvm.MethodName)) ∈ zw := zw_of (List.mem_of_getElem? (i := 685) (by decide +kernel)) (by decide +kernel)
theorem zw_686 : (Jvm.Cond.methodLink "ReplacementWriter$Output" (61 : Nat) ({ cls := "ReplacementWriter$Encoding", name := "lengthBehind", desc := "(I)I" } : Jvm.MethodName)) ∈ zw := zw_of (List.mem_of_getElem? (i := 686) (by decide +kernel)) (by decide +kernel)
theorem zw_687 : (Jvm.Cond.methodLink "ReplacementWriter$Output" (64 : Nat) ({ cls := "java/lang/Math", name := "max", desc := "(II)I" } : Jvm.MethodName)) ∈ zw := zw_of (List.mem_of_getElem? (i := 687) (by decide +kernel)) (by decide +kernel)
theorem zw_690 : (Jvm.Cond.instanceMethod ({ cls := "ReplacementWriter$Writing", name := "writePart", desc := "(III)V" } : Jvm.MethodName)) ∈ zw := zw_of (List.mem_of_getElem? (i := 690) (by decide +kernel)) (by decide +kernel)
theorem zw_691 : (Jvm.Cond.code ({ cls := "ReplacementWriter$Writing", name := "writePart", desc := "(III)V" } : Jvm.MethodName) prog_11_method_6_code (7 : Nat) (Option.none : Option Jvm.ClassFile.FieldType)) ∈ zw := zw_of (List.mem_of_getElem? (i := 691) (by decide +kernel)) (by decide +kernel)
theorem zw_692 : (Jvm.Cond.methodLink "ReplacementWriter$Writing" (59 : Nat) ({ cls := "ReplacementWriter$Row", name := "at", desc := "(I)I" } : Jvm.MethodName)) ∈ zw := zw_of (List.mem_of_getElem? (i := 692) (by decide +kernel)) (by decide +kernel)
theorem zw_693 : (Jvm.Cond.methodLink "ReplacementWriter$Writing" (63 : Nat) ({ cls := "ReplacementWriter$Writing", name := "writeDollar", desc := "(III)I" } : Jvm.MethodName)) ∈ zw := zw_of (List.mem_of_getElem? (i := 693) (by decide +kernel)) (by decide +kernel)
theorem zw_695 : (Jvm.Cond.instanceMethod ({ cls := "ReplacementWriter$Writing", name := "writeDollar", desc := "(III)I" } : Jvm.MethodName)) ∈ zw := zw_of (List.mem_of_getElem? (i := 695) (by decide +kernel)) (by decide +kernel)
theorem zw_696 : (Jvm.Cond.code ({ cls := "ReplacementWriter$Writing", name := "writeDollar", desc := "(III)I" } : Jvm.MethodName) prog_11_method_9_code (8 : Nat) (Option.some Jvm.ClassFile.FieldType.int)) ∈ zw := zw_of (List.mem_of_getElem? (i := 696) (by decide +kernel)) (by decide +kernel)
theorem zw_697 : (Jvm.Cond.methodLink "ReplacementWriter$Writing" (101 : Nat) ({ cls := "ReplacementWriter$Writing", name := "peek", desc := "(II)I" } : Jvm.MethodName)) ∈ zw := zw_of (List.mem_of_getElem? (i := 697) (by decide +kernel)) (by decide +kernel)
theorem zw_699 : (Jvm.Cond.instanceMethod ({ cls := "ReplacementWriter$Writing", name := "peek", desc := "(II)I" } : Jvm.MethodName)) ∈ zw := zw_of (List.mem_of_getElem? (i := 699) (by decide +kernel)) (by decide +kernel)
theorem zw_700 : (Jvm.Cond.code ({ cls := "ReplacementWriter$Writing", name := "peek", desc := "(II)I" } : Jvm.MethodName) prog_11_method_7_code (3 : Nat) (Option.some Jvm.ClassFile.FieldType.int)) ∈ zw := zw_of (List.mem_of_getElem? (i := 700) (by decide +kernel)) (by decide +kernel)
theorem zw_701 : (Jvm.Cond.methodLink "ReplacementWriter$Writing" (94 : Nat) ({ cls := "ReplacementWriter$Output", name := "put", desc := "(I)V" } : Jvm.MethodName)) ∈ zw := zw_of (List.mem_of_getElem? (i := 701) (by decide +kernel)) (by decide +kernel)
theorem zw_702 : (Jvm.Cond.methodLink "ReplacementWriter$Writing" (104 : Nat) ({ cls := "ReplacementWriter$Writing", name := "writeMark", desc := "(IIZ)I" } : Jvm.MethodName)) ∈ zw := zw_of (List.mem_of_getElem? (i := 702) (by decide +kernel)) (by decide +kernel)
theorem zw_704 : (Jvm.Cond.instanceMethod ({ cls := "ReplacementWriter$Writing", name := "writeMark", desc := "(IIZ)I" } : Jvm.MethodName)) ∈ zw := zw_of (List.mem_of_getElem? (i := 704) (by decide +kernel)) (by decide +kernel)
theorem zw_705 : (Jvm.Cond.code ({ cls := "ReplacementWriter$Writing", name := "writeMark", desc := "(IIZ)I" } : Jvm.MethodName) prog_11_method_10_code (7 : Nat) (Option.some Jvm.ClassFile.FieldType.int)) ∈ zw := zw_of (List.mem_of_getElem? (i := 705) (by decide +kernel)) (by decide +kernel)
theorem zw_706 : (Jvm.Cond.methodLink "ReplacementWriter$Writing" (80 : Nat) ({ cls := "ReplacementWriter$Writing", name := "fail", desc := "(II)I" } : Jvm.MethodName)) ∈ zw := zw_of (List.mem_of_getElem? (i := 706) (by decide +kernel)) (by decide +kernel)
theorem zw_707 : (Jvm.Cond.methodLink "ReplacementWriter$Writing" (119 : Nat) ({ cls := "ReplacementWriter$Groups", name := "markText", desc := "()LReplacementWriter$Row;" } : Jvm.MethodName)) ∈ zw := zw_of (List.mem_of_getElem? (i := 707) (by decide +kernel)) (by decide +kernel)
theorem zw_708 : (Jvm.Cond.instanceMethod ({ cls := "ReplacementWriter$Groups", name := "markText", desc := "()LReplacementWriter$Row;" } : Jvm.MethodName)) ∈ zw := zw_of (List.mem_of_getElem? (i := 708) (by decide +kernel)) (by decide +kernel)
theorem zw_709 : (Jvm.Cond.selects "ReplacementWriter$Groups" ({ cls := "ReplacementWriter$Groups", name := "markText", desc := "()LReplacementWriter$Row;" } : Jvm.MethodName) ({ cls := "ReplacementWriter$Groups", name := "markText", desc := "()LReplacementWriter$Row;" } : Jvm.MethodName)) ∈ zw := zw_of (List.mem_of_getElem? (i := 709) (by decide +kernel)) (by decide +kernel)
theorem zw_710 : (Jvm.Cond.code ({ cls := "ReplacementWriter$Groups", name := "markText", desc := "()LReplacementWriter$Row;" } : Jvm.MethodName) prog_6_method_5_code (1 : Nat) (Option.some (Jvm.ClassFile.FieldType.object "ReplacementWriter$Row"))) ∈ zw := zw_of (List.mem_of_getElem? (i := 710) (by decide +kernel)) (by decide +kernel)
theorem zw_711 : (Jvm.Cond.methodLink "ReplacementWriter$Writing" (125 : Nat) ({ cls := "ReplacementWriter$Output", name := "copy", desc := "(LReplacementWriter$Row;II)V" } : Jvm.MethodName)) ∈ zw := zw_of (List.mem_of_getElem? (i := 711) (by decide +kernel)) (by decide +kernel)
theorem zw_712 : (Jvm.Cond.methodLink "ReplacementWriter$Writing" (108 : Nat) ({ cls := "ReplacementWriter$Writing", name := "referenceEnd", desc := "(II)I" } : Jvm.MethodName)) ∈ zw := zw_of (List.mem_of_getElem? (i := 712) (by decide +kernel)) (by decide +kernel)
theorem zw_714 : (Jvm.Cond.instanceMethod ({ cls := "ReplacementWriter$Writing", name := "referenceEnd", desc := "(II)I" } : Jvm.MethodName)) ∈ zw := zw_of (List.mem_of_getElem? (i := 714) (by decide +kernel)) (by decide +kernel)
theorem zw_715 : (Jvm.Cond.code ({ cls := "ReplacementWriter$Writing", name := "referenceEnd", desc := "(II)I" } : Jvm.MethodName) prog_11_method_11_code (5 : Nat) (Option.some Jvm.ClassFile.FieldType.int)) ∈ zw := zw_of (List.mem_of_getElem? (i := 715) (by decide +kernel)) (by decide +kernel)
theorem zw_716 : (Jvm.Cond.methodLink "ReplacementWriter$Writing" (129 : Nat) ({ cls := "ReplacementWriter$Ascii", name := "isDigit", desc := "(I)Z" } : Jvm.MethodName)) ∈ zw := zw_of (List.mem_of_getElem? (i := 716) (by decide +kernel)) (by decide +kernel)
theorem zw_717 : (Jvm.Cond.methodLink "ReplacementWriter$Writing" (135 : Nat) ({ cls := "java/lang/Math", name := "min", desc := "(II)I" } : Jvm.MethodName)) ∈ zw := zw_of (List.mem_of_getElem? (i := 717) (by decide +kernel)) (by decide +kernel)
theorem zw_718 : (Jvm.Cond.methodLink "ReplacementWriter$Writing" (138 : Nat) ({ cls := "ReplacementWriter$Ascii", name := "isWord", desc := "(I)Z" } : Jvm.MethodName)) ∈ zw := zw_of (List.mem_of_getElem? (i := 718) (by decide +kernel)) (by decide +kernel)
theorem zw_719 : (Jvm.Cond.methodLink "ReplacementWriter$Writing" (111 : Nat) ({ cls := "ReplacementWriter$Writing", name := "writeGroup", desc := "(IIII)I" } : Jvm.MethodName)) ∈ zw := zw_of (List.mem_of_getElem? (i := 719) (by decide +kernel)) (by decide +kernel)
theorem zw_721 : (Jvm.Cond.instanceMethod ({ cls := "ReplacementWriter$Writing", name := "writeGroup", desc := "(IIII)I" } : Jvm.MethodName)) ∈ zw := zw_of (List.mem_of_getElem? (i := 721) (by decide +kernel)) (by decide +kernel)
theorem zw_722 : (Jvm.Cond.code ({ cls := "ReplacementWriter$Writing", name := "writeGroup", desc := "(IIII)I" } : Jvm.MethodName) prog_11_method_13_code (6 : Nat) (Option.some Jvm.ClassFile.FieldType.int)) ∈ zw := zw_of (List.mem_of_getElem? (i := 722) (by decide +kernel)) (by decide +kernel)
theorem zw_723 : (Jvm.Cond.methodLink "ReplacementWriter$Writing" (149 : Nat) ({ cls := "ReplacementWriter$Writing", name := "groupFor", desc := "(II)I" } : Jvm.MethodName)) ∈ zw := zw_of (List.mem_of_getElem? (i := 723) (by decide +kernel)) (by decide +kernel)
theorem zw_725 : (Jvm.Cond.instanceMethod ({ cls := "ReplacementWriter$Writing", name := "groupFor", desc := "(II)I" } : Jvm.MethodName)) ∈ zw := zw_of (List.mem_of_getElem? (i := 725) (by decide +kernel)) (by decide +kernel)
theorem zw_726 : (Jvm.Cond.code ({ cls := "ReplacementWriter$Writing", name := "groupFor", desc := "(II)I" } : Jvm.MethodName) prog_11_method_12_code (6 : Nat) (Option.some Jvm.ClassFile.FieldType.int)) ∈ zw := zw_of (List.mem_of_getElem? (i := 726) (by decide +kernel)) (by decide +kernel)
theorem zw_727 : (Jvm.Cond.constant "ReplacementWriter$Writing" (141 : Nat) (65535 : Int32)) ∈ zw := zw_of (List.mem_of_getElem? (i := 727) (by decide +kernel)) (by decide +kernel)
theorem zw_728 : (Jvm.Cond.methodLink "ReplacementWriter$Writing" (142 : Nat) ({ cls := "ReplacementWriter$Groups", name := "numbered", desc := "(I)I" } : Jvm.MethodName)) ∈ zw := zw_of (List.mem_of_getElem? (i := 728) (by decide +kernel)) (by decide +kernel)
theorem zw_729 : (Jvm.Cond.instanceMethod ({ cls := "ReplacementWriter$Groups", name := "numbered", desc := "(I)I" } : Jvm.MethodName)) ∈ zw := zw_of (List.mem_of_getElem? (i := 729) (by decide +kernel)) (by decide +kernel)
theorem zw_730 : (Jvm.Cond.selects "ReplacementWriter$Groups" ({ cls := "ReplacementWriter$Groups", name := "numbered", desc := "(I)I" } : Jvm.MethodName) ({ cls := "ReplacementWriter$Groups", name := "numbered", desc := "(I)I" } : Jvm.MethodName)) ∈ zw := zw_of (List.mem_of_getElem? (i := 730) (by decide +kernel)) (by decide +kernel)
theorem zw_731 : (Jvm.Cond.code ({ cls := "ReplacementWriter$Groups", name := "numbered", desc := "(I)I" } : Jvm.MethodName) prog_6_method_13_code (2 : Nat) (Option.some Jvm.ClassFile.FieldType.int)) ∈ zw := zw_of (List.mem_of_getElem? (i := 731) (by decide +kernel)) (by decide +kernel)
theorem zw_732 : (Jvm.Cond.methodLink "ReplacementWriter$Groups" (97 : Nat) ({ cls := "ReplacementWriter$Groups", name := "has", desc := "(I)Z" } : Jvm.MethodName)) ∈ zw := zw_of (List.mem_of_getElem? (i := 732) (by decide +kernel)) (by decide +kernel)
theorem zw_733 : (Jvm.Cond.methodLink "ReplacementWriter$Writing" (145 : Nat) ({ cls := "ReplacementWriter$Groups", name := "named", desc := "(LReplacementWriter$Row;II)I" } : Jvm.MethodName)) ∈ zw := zw_of (List.mem_of_getElem? (i := 733) (by decide +kernel)) (by decide +kernel)
theorem zw_734 : (Jvm.Cond.instanceMethod ({ cls := "ReplacementWriter$Groups", name := "named", desc := "(LReplacementWriter$Row;II)I" } : Jvm.MethodName)) ∈ zw := zw_of (List.mem_of_getElem? (i := 734) (by decide +kernel)) (by decide +kernel)
theorem zw_735 : (Jvm.Cond.selects "ReplacementWriter$Groups" ({ cls := "ReplacementWriter$Groups", name := "named", desc := "(LReplacementWriter$Row;II)I" } : Jvm.MethodName) ({ cls := "ReplacementWriter$Groups", name := "named", desc := "(LReplacementWriter$Row;II)I" } : Jvm.MethodName)) ∈ zw := zw_of (List.mem_of_getElem? (i := 735) (by decide +kernel)) (by decide +kernel)
theorem zw_736 : (Jvm.Cond.code ({ cls := "ReplacementWriter$Groups", name := "named", desc := "(LReplacementWriter$Row;II)I" } : Jvm.MethodName) prog_6_method_14_code (7 : Nat) (Option.some Jvm.ClassFile.FieldType.int)) ∈ zw := zw_of (List.mem_of_getElem? (i := 736) (by decide +kernel)) (by decide +kernel)
theorem zw_737 : (Jvm.Cond.methodLink "ReplacementWriter$Groups" (100 : Nat) ({ cls := "java/lang/Math", name := "min", desc := "(II)I" } : Jvm.MethodName)) ∈ zw := zw_of (List.mem_of_getElem? (i := 737) (by decide +kernel)) (by decide +kernel)
theorem zw_738 : (Jvm.Cond.methodLink "ReplacementWriter$Writing" (152 : Nat) ({ cls := "ReplacementWriter$Groups", name := "textOf", desc := "(I)LReplacementWriter$Row;" } : Jvm.MethodName)) ∈ zw := zw_of (List.mem_of_getElem? (i := 738) (by decide +kernel)) (by decide +kernel)
theorem zw_739 : (Jvm.Cond.instanceMethod ({ cls := "ReplacementWriter$Groups", name := "textOf", desc := "(I)LReplacementWriter$Row;" } : Jvm.MethodName)) ∈ zw := zw_of (List.mem_of_getElem? (i := 739) (by decide +kernel)) (by decide +kernel)
theorem zw_740 : (Jvm.Cond.selects "ReplacementWriter$Groups" ({ cls := "ReplacementWriter$Groups", name := "textOf", desc := "(I)LReplacementWriter$Row;" } : Jvm.MethodName) ({ cls := "ReplacementWriter$Groups", name := "textOf", desc := "(I)LReplacementWriter$Row;" } : Jvm.MethodName)) ∈ zw := zw_of (List.mem_of_getElem? (i := 740) (by decide +kernel)) (by decide +kernel)
theorem zw_741 : (Jvm.Cond.code ({ cls := "ReplacementWriter$Groups", name := "textOf", desc := "(I)LReplacementWriter$Row;" } : Jvm.MethodName) prog_6_method_10_code (2 : Nat) (Option.some (Jvm.ClassFile.FieldType.object "ReplacementWriter$Row"))) ∈ zw := zw_of (List.mem_of_getElem? (i := 741) (by decide +kernel)) (by decide +kernel)
theorem zw_742 : (Jvm.Cond.methodLink "ReplacementWriter$Writing" (115 : Nat) ({ cls := "ReplacementWriter$Writing", name := "writeChoice", desc := "(IIIII)I" } : Jvm.MethodName)) ∈ zw := zw_of (List.mem_of_getElem? (i := 742) (by decide +kernel)) (by decide +kernel)
theorem zw_744 : (Jvm.Cond.instanceMethod ({ cls := "ReplacementWriter$Writing", name := "writeChoice", desc := "(IIIII)I" } : Jvm.MethodName)) ∈ zw := zw_of (List.mem_of_getElem? (i := 744) (by decide +kernel)) (by decide +kernel)
theorem zw_745 : (Jvm.Cond.code ({ cls := "ReplacementWriter$Writing", name := "writeChoice", desc := "(IIIII)I" } : Jvm.MethodName) prog_11_method_14_code (13 : Nat) (Option.some Jvm.ClassFile.FieldType.int)) ∈ zw := zw_of (List.mem_of_getElem? (i := 745) (by decide +kernel)) (by decide +kernel)
theorem zw_746 : (Jvm.Cond.methodLink "ReplacementWriter$Writing" (156 : Nat) ({ cls := "ReplacementWriter$Writing", name := "partEnd", desc := "(IIZ)I" } : Jvm.MethodName)) ∈ zw := zw_of (List.mem_of_getElem? (i := 746) (by decide +kernel)) (by decide +kernel)
theorem zw_748 : (Jvm.Cond.instanceMethod ({ cls := "ReplacementWriter$Writing", name := "partEnd", desc := "(IIZ)I" } : Jvm.MethodName)) ∈ zw := zw_of (List.mem_of_getElem? (i := 748) (by decide +kernel)) (by decide +kernel)
theorem zw_749 : (Jvm.Cond.code ({ cls := "ReplacementWriter$Writing", name := "partEnd", desc := "(IIZ)I" } : Jvm.MethodName) prog_11_method_15_code (7 : Nat) (Option.some Jvm.ClassFile.FieldType.int)) ∈ zw := zw_of (List.mem_of_getElem? (i := 749) (by decide +kernel)) (by decide +kernel)
theorem zw_750 : (Jvm.Cond.methodLink "ReplacementWriter$Writing" (159 : Nat) ({ cls := "ReplacementWriter$Writing", name := "writePart", desc := "(III)V" } : Jvm.MethodName)) ∈ zw := zw_of (List.mem_of_getElem? (i := 750) (by decide +kernel)) (by decide +kernel)
theorem zw_751 : (Jvm.Cond.methodLink "ReplacementWriter$Writing" (67 : Nat) ({ cls := "ReplacementWriter$Writing", name := "writeBackslash", desc := "(II)I" } : Jvm.MethodName)) ∈ zw := zw_of (List.mem_of_getElem? (i := 751) (by decide +kernel)) (by decide +kernel)
theorem zw_753 : (Jvm.Cond.instanceMethod ({ cls := "ReplacementWriter$Writing", name := "writeBackslash", desc := "(II)I" } : Jvm.MethodName)) ∈ zw := zw_of (List.mem_of_getElem? (i := 753) (by decide +kernel)) (by decide +kernel)
theorem zw_754 : (Jvm.Cond.code ({ cls := "ReplacementWriter$Writing", name := "writeBackslash", desc := "(II)I" } : Jvm.MethodName) prog_11_method_16_code (5 : Nat) (Option.some Jvm.ClassFile.FieldType.int)) ∈ zw := zw_of (List.mem_of_getElem? (i := 754) (by decide +kernel)) (by decide +kernel)
theorem zw_755 : (Jvm.Cond.methodLink "ReplacementWriter$Writing" (163 : Nat) ({ cls := "ReplacementWriter$Writing", name := "writeQuoted", desc := "(II)I" } : Jvm.MethodName)) ∈ zw := zw_of (List.mem_of_getElem? (i := 755) (by decide +kernel)) (by decide +kernel)
theorem zw_757 : (Jvm.Cond.instanceMethod ({ cls := "ReplacementWriter$Writing", name := "writeQuoted", desc := "(II)I" } : Jvm.MethodName)) ∈ zw := zw_of (List.mem_of_getElem? (i := 757) (by decide +kernel)) (by decide +kernel)
theorem zw_758 : (Jvm.Cond.code ({ cls := "ReplacementWriter$Writing", name := "writeQuoted", desc := "(II)I" } : Jvm.MethodName) prog_11_method_17_code (4 : Nat) (Option.some Jvm.ClassFile.FieldType.int)) ∈ zw := zw_of (List.mem_of_getElem? (i := 758) (by decide +kernel)) (by decide +kernel)
theorem zw_759 : (Jvm.Cond.fieldLink "ReplacementWriter$Writing" (166 : Nat) "ReplacementWriter$Turn" "AS_IT_IS" "LReplacementWriter$Turn;") ∈ zw := zw_of (List.mem_of_getElem? (i := 759) (by decide +kernel)) (by decide +kernel)
theorem zw_760 : (Jvm.Cond.methodLink "ReplacementWriter$Writing" (172 : Nat) ({ cls := "ReplacementWriter$Output", name := "turnFromHere", desc := "(LReplacementWriter$Turn;)V" } : Jvm.MethodName)) ∈ zw := zw_of (List.mem_of_getElem? (i := 760) (by decide +kernel)) (by decide +kernel)
theorem zw_761 : (Jvm.Cond.instanceMethod ({ cls := "ReplacementWriter$Output", name := "turnFromHere", desc := "(LReplacementWriter$Turn;)V" } : Jvm.MethodName)) ∈ zw := zw_of (List.mem_of_getElem? (i := 761) (by decide +kernel)) (by decide +kernel)
theorem zw_762 : (Jvm.Cond.selects "ReplacementWriter$Output" ({ cls := "ReplacementWriter$Output", name := "turnFromHere", desc := "(LReplacementWriter$Turn;)V" } : Jvm.MethodName) ({ cls := "ReplacementWriter$Output", name := "turnFromHere", desc := "(LReplacementWriter$Turn;)V" } : Jvm.MethodName)) ∈ zw := zw_of (List.mem_of_getElem? (i := 762) (by decide +kernel)) (by decide +kernel)
theorem zw_763 : (Jvm.Cond.code ({ cls := "ReplacementWriter$Output", name := "turnFromHere", desc := "(LReplacementWriter$Turn;)V" } : Jvm.MethodName) prog_8_method_5_code (2 : Nat) (Option.none : Option Jvm.ClassFile.FieldType)) ∈ zw := zw_of (List.mem_of_getElem? (i := 763) (by decide +kernel)) (by decide +kernel)
theorem zw_764 : (Jvm.Cond.fieldLink "ReplacementWriter$Writing" (176 : Nat) "ReplacementWriter$Turn" "UPPER" "LReplacementWriter$Turn;") ∈ zw := zw_of (List.mem_of_getElem? (i := 764) (by decide +kernel)) (by decide +kernel)
theorem zw_765 : (Jvm.Cond.fieldLink "ReplacementWriter$Writing" (179 : Nat) "ReplacementWriter$Turn" "LOWER" "LReplacementWriter$Turn;") ∈ zw := zw_of (List.mem_of_getElem? (i := 765) (by decide +kernel)) (by decide +kernel)
theorem zw_767 : (Jvm.Cond.methodLink "ReplacementWriter$Writing" (182 : Nat) ({ cls := "ReplacementWriter$Output", name := "turnNext", desc := "(LReplacementWriter$Turn;)V" } : Jvm.MethodName)) ∈ zw := zw_of (List.mem_of_getElem? (i := 767) (by decide +kernel)) (by decide +kernel)
theorem zw_768 : (Jvm.Cond.instanceMethod ({ cls := "ReplacementWriter$Output", name := "turnNext", desc := "(LReplacementWriter$Turn;)V" } : Jvm.MethodName)) ∈ zw := zw_of (List.mem_of_getElem? (i := 768) (by decide +kernel)) (by decide +kernel)
theorem zw_769 : (Jvm.Cond.selects "ReplacementWriter$Output" ({ cls := "ReplacementWriter$Output", name := "turnNext", desc := "(LReplacementWriter$Turn;)V" } : Jvm.MethodName) ({ cls := "ReplacementWriter$Output", name := "turnNext", desc := "(LReplacementWriter$Turn;)V" } : Jvm.MethodName)) ∈ zw := zw_of (List.mem_of_getElem? (i := 769) (by decide +kernel)) (by decide +kernel)
theorem zw_770 : (Jvm.Cond.code ({ cls := "ReplacementWriter$Output", name := "turnNext", desc := "(LReplacementWriter$Turn;)V" } : Jvm.MethodName) prog_8_method_6_code (2 : Nat) (Option.none : Option Jvm.ClassFile.FieldType)) ∈ zw := zw_of (List.mem_of_getElem? (i := 770) (by decide +kernel)) (by decide +kernel)
theorem zw_771 : (Jvm.Cond.methodLink "ReplacementWriter$Writing" (185 : Nat) ({ cls := "ReplacementWriter$Ascii", name := "isLetterOrDigit", desc := "(I)Z" } : Jvm.MethodName)) ∈ zw := zw_of (List.mem_of_getElem? (i := 771) (by decide +kernel)) (by decide +kernel)
theorem zw_772 : (Jvm.Cond.methodLink "ReplacementWriter$Writing" (71 : Nat) ({ cls := "ReplacementWriter$Writing", name := "writeCharacter", desc := "(I)I" } : Jvm.MethodName)) ∈ zw := zw_of (List.mem_of_getElem? (i := 772) (by decide +kernel)) (by decide +kernel)
theorem zw_774 : (Jvm.Cond.instanceMethod ({ cls := "ReplacementWriter$Writing", name := "writeCharacter", desc := "(I)I" } : Jvm.MethodName)) ∈ zw := zw_of (List.mem_of_getElem? (i := 774) (by decide +kernel)) (by decide +kernel)
theorem zw_775 : (Jvm.Cond.code ({ cls := "ReplacementWriter$Writing", name := "writeCharacter", desc := "(I)I" } : Jvm.MethodName) prog_11_method_8_code (2 : Nat) (Option.some Jvm.ClassFile.FieldType.int)) ∈ zw := zw_of (List.mem_of_getElem? (i := 775) (by decide +kernel)) (by decide +kernel)
theorem zw_776 : (Jvm.Cond.methodLink "ReplacementWriter$Writing" (88 : Nat) ({ cls := "ReplacementWriter$Encoding", name := "characterAt", desc := "(LReplacementWriter$Row;I)I" } : Jvm.MethodName)) ∈ zw := zw_of (List.mem_of_getElem? (i := 776) (by decide +kernel)) (by decide +kernel)
theorem zw_777 : (Jvm.Cond.methodLink "ReplacementWriter$Writing" (98 : Nat) ({ cls := "ReplacementWriter$Encoding", name := "lengthBehind", desc := "(I)I" } : Jvm.MethodName)) ∈ zw := zw_of (List.mem_of_getElem? (i := 777) (by decide +kernel)) (by decide +kernel)
theorem zw_778 : (Jvm.Cond.methodLink "ReplacementWriter$Writing" (188 : Nat) ({ cls := "ReplacementWriter$Escape", name := "read", desc := "(II)Z" } : Jvm.MethodName)) ∈ zw := zw_of (List.mem_of_getElem? (i := 778) (by decide +kernel)) (by decide +kernel)
theorem zw_779 : (Jvm.Cond.instanceMethod ({ cls := "ReplacementWriter$Escape", name := "read", desc := "(II)Z" } : Jvm.MethodName)) ∈ zw := zw_of (List.mem_of_getElem? (i := 779) (by decide +kernel)) (by decide +kernel)
theorem zw_780 : (Jvm.Cond.selects "ReplacementWriter$Escape" ({ cls := "ReplacementWriter$Escape", name := "read", desc := "(II)Z" } : Jvm.MethodName) ({ cls := "ReplacementWriter$Escape", name := "read", desc := "(II)Z" } : Jvm.MethodName)) ∈ zw := zw_of (List.mem_of_getElem? (i := 780) (by decide +kernel)) (by decide +kernel)
theorem zw_781 : (Jvm.Cond.code ({ cls := "ReplacementWriter$Escape", name := "read", desc := "(II)Z" } : Jvm.MethodName) prog_5_method_4_code (4 : Nat) (Option.some Jvm.ClassFile.FieldType.boolean)) ∈ zw := zw_of (List.mem_of_getElem? (i := 781) (by decide +kernel)) (by decide +kernel)
theorem zw_782 : (Jvm.Cond.methodLink "ReplacementWriter$Escape" (24 : Nat) ({ cls := "ReplacementWriter$Row", name := "at", desc := "(I)I" } : Jvm.MethodName)) ∈ zw := zw_of (List.mem_of_getElem? (i := 782) (by decide +kernel)) (by decide +kernel)
theorem zw_783 : (Jvm.Cond.methodLink "ReplacementWriter$Escape" (30 : Nat) ({ cls := "ReplacementWriter$Escape", name := "found", desc := "(II)Z" } : Jvm.MethodName)) ∈ zw := zw_of (List.mem_of_getElem? (i := 783) (by decide +kernel)) (by decide +kernel)
theorem zw_785 : (Jvm.Cond.instanceMethod ({ cls := "ReplacementWriter$Escape", name := "found", desc := "(II)Z" } : Jvm.MethodName)) ∈ zw := zw_of (List.mem_of_getElem? (i := 785) (by decide +kernel)) (by decide +kernel)
theorem zw_786 : (Jvm.Cond.code ({ cls := "ReplacementWriter$Escape", name := "found", desc := "(II)Z" } : Jvm.MethodName) prog_5_method_5_code (3 : Nat) (Option.some Jvm.ClassFile.FieldType.boolean)) ∈ zw := zw_of (List.mem_of_getElem? (i := 786) (by decide +kernel)) (by decide +kernel)
theorem zw_787 : (Jvm.Cond.methodLink "ReplacementWriter$Escape" (34 : Nat) ({ cls := "ReplacementWriter$Escape", name := "readControl", desc := "(II)Z" } : Jvm.MethodName)) ∈ zw := zw_of (List.mem_of_getElem? (i := 787) (by decide +kernel)) (by decide +kernel)
theorem zw_789 : (Jvm.Cond.instanceMethod ({ cls := "ReplacementWriter$Escape", name := "readControl", desc := "(II)Z" } : Jvm.MethodName)) ∈ zw := zw_of (List.mem_of_getElem? (i := 789) (by decide +kernel)) (by decide +kernel)
theorem zw_790 : (Jvm.Cond.code ({ cls := "ReplacementWriter$Escape", name := "readControl", desc := "(II)Z" } : Jvm.MethodName) prog_5_method_6_code (5 : Nat) (Option.some Jvm.ClassFile.FieldType.boolean)) ∈ zw := zw_of (List.mem_of_getElem? (i := 790) (by decide +kernel)) (by decide +kernel)
theorem zw_791 : (Jvm.Cond.methodLink "ReplacementWriter$Escape" (37 : Nat) ({ cls := "ReplacementWriter$Escape", name := "readBare", desc := "(III)Z" } : Jvm.MethodName)) ∈ zw := zw_of (List.mem_of_getElem? (i := 791) (by decide +kernel)) (by decide +kernel)
theorem zw_793 : (Jvm.Cond.instanceMethod ({ cls := "ReplacementWriter$Escape", name := "readBare", desc := "(III)Z" } : Jvm.MethodName)) ∈ zw := zw_of (List.mem_of_getElem? (i := 793) (by decide +kernel)) (by decide +kernel)
theorem zw_794 : (Jvm.Cond.code ({ cls := "ReplacementWriter$Escape", name := "readBare", desc := "(III)Z" } : Jvm.MethodName) prog_5_method_7_code (5 : Nat) (Option.some Jvm.ClassFile.FieldType.boolean)) ∈ zw := zw_of (List.mem_of_getElem? (i := 794) (by decide +kernel)) (by decide +kernel)
theorem zw_795 : (Jvm.Cond.methodLink "ReplacementWriter$Escape" (44 : Nat) ({ cls := "java/lang/Math", name := "min", desc := "(II)I" } : Jvm.MethodName)) ∈ zw := zw_of (List.mem_of_getElem? (i := 795) (by decide +kernel)) (by decide +kernel)
theorem zw_796 : (Jvm.Cond.methodLink "ReplacementWriter$Escape" (50 : Nat) ({ cls := "ReplacementWriter$Escape", name := "digitsEnd", desc := "(III)I" } : Jvm.MethodName)) ∈ zw := zw_of (List.mem_of_getElem? (i := 796) (by decide +kernel)) (by decide +kernel)
theorem zw_798 : (Jvm.Cond.instanceMethod ({ cls := "ReplacementWriter$Escape", name := "digitsEnd", desc := "(III)I" } : Jvm.MethodName)) ∈ zw := zw_of (List.mem_of_getElem? (i := 798) (by decide +kernel)) (by decide +kernel)
theorem zw_799 : (Jvm.Cond.code ({ cls := "ReplacementWriter$Escape", name := "digitsEnd", desc := "(III)I" } : Jvm.MethodName) prog_5_method_9_code (5 : Nat) (Option.some Jvm.ClassFile.FieldType.int)) ∈ zw := zw_of (List.mem_of_getElem? (i := 799) (by decide +kernel)) (by decide +kernel)
theorem zw_800 : (Jvm.Cond.methodLink "ReplacementWriter$Escape" (64 : Nat) ({ cls := "ReplacementWriter$Ascii", name := "digit", desc := "(II)I" } : Jvm.MethodName)) ∈ zw := zw_of (List.mem_of_getElem? (i := 800) (by decide +kernel)) (by decide +kernel)
theorem zw_801 : (Jvm.Cond.static ({ cls := "ReplacementWriter$Ascii", name := "digit", desc := "(II)I" } : Jvm.MethodName)) ∈ zw := zw_of (List.mem_of_getElem? (i := 801) (by decide +kernel)) (by decide +kernel)
theorem zw_802 : (Jvm.Cond.code ({ cls := "ReplacementWriter$Ascii", name := "digit", desc := "(II)I" } : Jvm.MethodName) prog_2_method_5_code (3 : Nat) (Option.some Jvm.ClassFile.FieldType.int)) ∈ zw := zw_of (List.mem_of_getElem? (i := 802) (by decide +kernel)) (by decide +kernel)
theorem zw_803 : (Jvm.Cond.methodLink "ReplacementWriter$Escape" (54 : Nat) ({ cls := "ReplacementWriter$Escape", name := "valueOf", desc := "(III)J" } : Jvm.MethodName)) ∈ zw := zw_of (List.mem_of_getElem? (i := 803) (by decide +kernel)) (by decide +kernel)
theorem zw_805 : (Jvm.Cond.instanceMethod ({ cls := "ReplacementWriter$Escape", name := "valueOf", desc := "(III)J" } : Jvm.MethodName)) ∈ zw := zw_of (List.mem_of_getElem? (i := 805) (by decide +kernel)) (by decide +kernel)
theorem zw_806 : (Jvm.Cond.code ({ cls := "ReplacementWriter$Escape", name := "valueOf", desc := "(III)J" } : Jvm.MethodName) prog_5_method_10_code (7 : Nat) (Option.some Jvm.ClassFile.FieldType.long)) ∈ zw := zw_of (List.mem_of_getElem? (i := 806) (by decide +kernel)) (by decide +kernel)
theorem zw_807 : (Jvm.Cond.methodLink "ReplacementWriter$Escape" (41 : Nat) ({ cls := "ReplacementWriter$Escape", name := "readBraced", desc := "(III)Z" } : Jvm.MethodName)) ∈ zw := zw_of (List.mem_of_getElem? (i := 807) (by decide +kernel)) (by decide +kernel)
theorem zw_809 : (Jvm.Cond.instanceMethod ({ cls := "ReplacementWriter$Escape", name := "readBraced", desc := "(III)Z" } : Jvm.MethodName)) ∈ zw := zw_of (List.mem_of_getElem? (i := 809) (by decide +kernel)) (by decide +kernel)
theorem zw_810 : (Jvm.Cond.code ({ cls := "ReplacementWriter$Escape", name := "readBraced", desc := "(III)Z" } : Jvm.MethodName) prog_5_method_8_code (8 : Nat) (Option.some Jvm.ClassFile.FieldType.boolean)) ∈ zw := zw_of (List.mem_of_getElem? (i := 810) (by decide +kernel)) (by decide +kernel)
theorem zw_811 : (Jvm.Cond.methodLink "ReplacementWriter$Escape" (58 : Nat) ({ cls := "ReplacementWriter$Encoding", name := "exists", desc := "(J)Z" } : Jvm.MethodName)) ∈ zw := zw_of (List.mem_of_getElem? (i := 811) (by decide +kernel)) (by decide +kernel)
theorem zw_812 : (Jvm.Cond.methodLink "ReplacementWriter$Writing" (192 : Nat) ({ cls := "ReplacementWriter$Escape", name := "character", desc := "()I" } : Jvm.MethodName)) ∈ zw := zw_of (List.mem_of_getElem? (i := 812) (by decide +kernel)) (by decide +kernel)
theorem zw_813 : (Jvm.Cond.instanceMethod ({ cls := "ReplacementWriter$Escape", name := "character", desc := "()I" } : Jvm.MethodName)) ∈ zw := zw_of (List.mem_of_getElem? (i := 813) (by decide +kernel)) (by decide +kernel)
theorem zw_814 : (Jvm.Cond.selects "ReplacementWriter$Escape" ({ cls := "ReplacementWriter$Escape", name := "character", desc := "()I" } : Jvm.MethodName) ({ cls := "ReplacementWriter$Escape", name := "character", desc := "()I" } : Jvm.MethodName)) ∈ zw := zw_of (List.mem_of_getElem? (i := 814) (by decide +kernel)) (by decide +kernel)
theorem zw_815 : (Jvm.Cond.code ({ cls := "ReplacementWriter$Escape", name := "character", desc := "()I" } : Jvm.MethodName) prog_5_method_2_code (1 : Nat) (Option.some Jvm.ClassFile.FieldType.int)) ∈ zw := zw_of (List.mem_of_getElem? (i := 815) (by decide +kernel)) (by decide +kernel)
theorem zw_816 : (Jvm.Cond.methodLink "ReplacementWriter$Writing" (195 : Nat) ({ cls := "ReplacementWriter$Escape", name := "next", desc := "()I" } : Jvm.MethodName)) ∈ zw := zw_of (List.mem_of_getElem? (i := 816) (by decide +kernel)) (by decide +kernel)
theorem zw_817 : (Jvm.Cond.instanceMethod ({ cls := "ReplacementWriter$Escape", name := "next", desc := "()I" } : Jvm.MethodName)) ∈ zw := zw_of (List.mem_of_getElem? (i := 817) (by decide +kernel)) (by decide +kernel)
theorem zw_818 : (Jvm.Cond.selects "ReplacementWriter$Escape" ({ cls := "ReplacementWriter$Escape", name := "next", desc := "()I" } : Jvm.MethodName) ({ cls := "ReplacementWriter$Escape", name := "next", desc := "()I" } : Jvm.MethodName)) ∈ zw := zw_of (List.mem_of_getElem? (i := 818) (by decide +kernel)) (by decide +kernel)
theorem zw_819 : (Jvm.Cond.code ({ cls := "ReplacementWriter$Escape", name := "next", desc := "()I" } : Jvm.MethodName) prog_5_method_3_code (1 : Nat) (Option.some Jvm.ClassFile.FieldType.int)) ∈ zw := zw_of (List.mem_of_getElem? (i := 819) (by decide +kernel)) (by decide +kernel)
theorem zw_820 : (Jvm.Cond.methodLink "ReplacementWriter$Writing" (74 : Nat) ({ cls := "ReplacementWriter$Output", name := "isFull", desc := "()Z" } : Jvm.MethodName)) ∈ zw := zw_of (List.mem_of_getElem? (i := 820) (by decide +kernel)) (by decide +kernel)
theorem zw_821 : (Jvm.Cond.instanceMethod ({ cls := "ReplacementWriter$Output", name := "isFull", desc := "()Z" } : Jvm.MethodName)) ∈ zw := zw_of (List.mem_of_getElem? (i := 821) (by decide +kernel)) (by decide +kernel)
theorem zw_822 : (Jvm.Cond.selects "ReplacementWriter$Output" ({ cls := "ReplacementWriter$Output", name := "isFull", desc := "()Z" } : Jvm.MethodName) ({ cls := "ReplacementWriter$Output", name := "isFull", desc := "()Z" } : Jvm.MethodName)) ∈ zw := zw_of (List.mem_of_getElem? (i := 822) (by decide +kernel)) (by decide +kernel)
theorem zw_823 : (Jvm.Cond.code ({ cls := "ReplacementWriter$Output", name := "isFull", desc := "()Z" } : Jvm.MethodName) prog_8_method_4_code (1 : Nat) (Option.some Jvm.ClassFile.FieldType.boolean)) ∈ zw := zw_of (List.mem_of_getElem? (i := 823) (by decide +kernel)) (by decide +kernel)
theorem zw_824 : (Jvm.Cond.methodLink "ReplacementWriter$Writing" (83 : Nat) ({ cls := "java/lang/Math", name := "max", desc := "(II)I" } : Jvm.MethodName)) ∈ zw := zw_of (List.mem_of_getElem? (i := 824) (by decide +kernel)) (by decide +kernel)
theorem zw_825 : (Jvm.Cond.methodLink "ReplacementWriter" (140 : Nat) ({ cls := "ReplacementWriter$Writing", name := "code", desc := "()I" } : Jvm.MethodName)) ∈ zw := zw_of (List.mem_of_getElem? (i := 825) (by decide +kernel)) (by decide +kernel)
theorem zw_826 : (Jvm.Cond.instanceMethod ({ cls := "ReplacementWriter$Writing", name := "code", desc := "()I" } : Jvm.MethodName)) ∈ zw := zw_of (List.mem_of_getElem? (i := 826) (by decide +kernel)) (by decide +kernel)
theorem zw_827 : (Jvm.Cond.selects "ReplacementWriter$Writing" ({ cls := "ReplacementWriter$Writing", name := "code", desc := "()I" } : Jvm.MethodName) ({ cls := "ReplacementWriter$Writing", name := "code", desc := "()I" } : Jvm.MethodName)) ∈ zw := zw_of (List.mem_of_getElem? (i := 827) (by decide +kernel)) (by decide +kernel)
theorem zw_828 : (Jvm.Cond.code ({ cls := "ReplacementWriter$Writing", name := "code", desc := "()I" } : Jvm.MethodName) prog_11_method_3_code (1 : Nat) (Option.some Jvm.ClassFile.FieldType.int)) ∈ zw := zw_of (List.mem_of_getElem? (i := 828) (by decide +kernel)) (by decide +kernel)
theorem zw_829 : (Jvm.Cond.methodLink "ReplacementWriter" (143 : Nat) ({ cls := "ReplacementWriter$Writing", name := "offset", desc := "()I" } : Jvm.MethodName)) ∈ zw := zw_of (List.mem_of_getElem? (i := 829) (by decide +kernel)) (by decide +kernel)
theorem zw_830 : (Jvm.Cond.instanceMethod ({ cls := "ReplacementWriter$Writing", name := "offset", desc := "()I" } : Jvm.MethodName)) ∈ zw := zw_of (List.mem_of_getElem? (i := 830) (by decide +kernel)) (by decide +kernel)
theorem zw_831 : (Jvm.Cond.selects "ReplacementWriter$Writing" ({ cls := "ReplacementWriter$Writing", name := "offset", desc := "()I" } : Jvm.MethodName) ({ cls := "ReplacementWriter$Writing", name := "offset", desc := "()I" } : Jvm.MethodName)) ∈ zw := zw_of (List.mem_of_getElem? (i := 831) (by decide +kernel)) (by decide +kernel)
theorem zw_832 : (Jvm.Cond.code ({ cls := "ReplacementWriter$Writing", name := "offset", desc := "()I" } : Jvm.MethodName) prog_11_method_4_code (1 : Nat) (Option.some Jvm.ClassFile.FieldType.int)) ∈ zw := zw_of (List.mem_of_getElem? (i := 832) (by decide +kernel)) (by decide +kernel)
theorem zw_833 : (Jvm.Cond.methodLink "ReplacementWriterLaw" (93 : Nat) ({ cls := "ReplacementWriterLaw", name := "result", desc := "(LReplacementWriter;I[J)I" } : Jvm.MethodName)) ∈ zw := zw_of (List.mem_of_getElem? (i := 833) (by decide +kernel)) (by decide +kernel)
theorem zw_834 : (Jvm.Cond.static ({ cls := "ReplacementWriterLaw", name := "result", desc := "(LReplacementWriter;I[J)I" } : Jvm.MethodName)) ∈ zw := zw_of (List.mem_of_getElem? (i := 834) (by decide +kernel)) (by decide +kernel)
theorem zw_836 : (Jvm.Cond.classLink "ReplacementWriterLaw" (46 : Nat) "java/lang/IndexOutOfBoundsException") ∈ zw := zw_of (List.mem_of_getElem? (i := 836) (by decide +kernel)) (by decide +kernel)
theorem zw_837 : (Jvm.Cond.methodLink "ReplacementWriterLaw" (43 : Nat) ({ cls := "ReplacementWriter", name := "result", desc := "(I)I" } : Jvm.MethodName)) ∈ zw := zw_of (List.mem_of_getElem? (i := 837) (by decide +kernel)) (by decide +kernel)
theorem zw_838 : (Jvm.Cond.instanceMethod ({ cls := "ReplacementWriter", name := "result", desc := "(I)I" } : Jvm.MethodName)) ∈ zw := zw_of (List.mem_of_getElem? (i := 838) (by decide +kernel)) (by decide +kernel)
theorem zw_839 : (Jvm.Cond.selects "ReplacementWriter" ({ cls := "ReplacementWriter", name := "result", desc := "(I)I" } : Jvm.MethodName) ({ cls := "ReplacementWriter", name := "result", desc := "(I)I" } : Jvm.MethodName)) ∈ zw := zw_of (List.mem_of_getElem? (i := 839) (by decide +kernel)) (by decide +kernel)
theorem zw_840 : (Jvm.Cond.code ({ cls := "ReplacementWriter", name := "result", desc := "(I)I" } : Jvm.MethodName) prog_1_method_12_code (3 : Nat) (Option.some Jvm.ClassFile.FieldType.int)) ∈ zw := zw_of (List.mem_of_getElem? (i := 840) (by decide +kernel)) (by decide +kernel)
theorem zw_841 : (Jvm.Cond.methodLink "ReplacementWriter" (150 : Nat) ({ cls := "ReplacementWriter$Row", name := "at", desc := "(I)I" } : Jvm.MethodName)) ∈ zw := zw_of (List.mem_of_getElem? (i := 841) (by decide +kernel)) (by decide +kernel)
theorem zw_842 : (Jvm.Cond.classLink "ReplacementWriter" (154 : Nat) "java/lang/IndexOutOfBoundsException") ∈ zw := zw_of (List.mem_of_getElem? (i := 842) (by decide +kernel)) (by decide +kernel)
theorem zw_843 : (Jvm.Cond.instantiable "java/lang/IndexOutOfBoundsException" (6 : Nat)) ∈ zw := zw_of (List.mem_of_getElem? (i := 843) (by decide +kernel)) (by decide +kernel)
theorem zw_845 : (Jvm.Cond.selects "java/lang/IndexOutOfBoundsException" ({ cls := "java/lang/Throwable", name := "fillInStackTrace", desc := "(I)Ljava/lang/Throwable;" } : Jvm.MethodName) ({ cls := "java/lang/Throwable", name := "fillInStackTrace", desc := "(I)Ljava/lang/Throwable;" } : Jvm.MethodName)) ∈ zw := zw_of (List.mem_of_getElem? (i := 845) (by decide +kernel)) (by decide +kernel)
theorem zw_846 : (Jvm.Cond.lays "java/lang/IndexOutOfBoundsException" "java/lang/Throwable" "cause" "Ljava/lang/Throwable;") ∈ zw := zw_of (List.mem_of_getElem? (i := 846) (by decide +kernel)) (by decide +kernel)
theorem zw_847 : (Jvm.Cond.lays "java/lang/IndexOutOfBoundsException" "java/lang/Throwable" "stackTrace" "[Ljava/lang/StackTraceElement;") ∈ zw := zw_of (List.mem_of_getElem? (i := 847) (by decide +kernel)) (by decide +kernel)
theorem zw_848 : (Jvm.Cond.lays "java/lang/IndexOutOfBoundsException" "java/lang/Throwable" "suppressedExceptions" "Ljava/util/List;") ∈ zw := zw_of (List.mem_of_getElem? (i := 848) (by decide +kernel)) (by decide +kernel)
theorem zw_849 : (Jvm.Cond.lays "java/lang/IndexOutOfBoundsException" "java/lang/Throwable" "detailMessage" "Ljava/lang/String;") ∈ zw := zw_of (List.mem_of_getElem? (i := 849) (by decide +kernel)) (by decide +kernel)
theorem zw_850 : (Jvm.Cond.lays "java/lang/IndexOutOfBoundsException" "java/lang/Throwable" "backtrace" "Ljava/lang/Object;") ∈ zw := zw_of (List.mem_of_getElem? (i := 850) (by decide +kernel)) (by decide +kernel)
theorem zw_851 : (Jvm.Cond.methodLink "ReplacementWriter" (156 : Nat) ({ cls := "java/lang/IndexOutOfBoundsException", name := "<init>", desc := "()V" } : Jvm.MethodName)) ∈ zw := zw_of (List.mem_of_getElem? (i := 851) (by decide +kernel)) (by decide +kernel)
theorem zw_852 : (Jvm.Cond.instanceMethod ({ cls := "java/lang/IndexOutOfBoundsException", name := "<init>", desc := "()V" } : Jvm.MethodName)) ∈ zw := zw_of (List.mem_of_getElem? (i := 852) (by decide +kernel)) (by decide +kernel)
theorem zw_853 : (Jvm.Cond.code ({ cls := "java/lang/IndexOutOfBoundsException", name := "<init>", desc := "()V" } : Jvm.MethodName) prog_24_method_1_code (1 : Nat) (Option.none : Option Jvm.ClassFile.FieldType)) ∈ zw := zw_of (List.mem_of_getElem? (i := 853) (by decide +kernel)) (by decide +kernel)
theorem zw_854 : (Jvm.Cond.methodLink "java/lang/IndexOutOfBoundsException" (1 : Nat) ({ cls := "java/lang/RuntimeException", name := "<init>", desc := "()V" } : Jvm.MethodName)) ∈ zw := zw_of (List.mem_of_getElem? (i := 854) (by decide +kernel)) (by decide +kernel)
theorem zw_855 : (Jvm.Cond.lays "java/lang/IndexOutOfBoundsException" "java/lang/Throwable" "depth" "I") ∈ zw := zw_of (List.mem_of_getElem? (i := 855) (by decide +kernel)) (by decide +kernel)
theorem zw_857 : (Jvm.Cond.methodLink "ReplacementWriterLaw" (96 : Nat) ({ cls := "ReplacementWriterLaw", name := "fault", desc := "(LReplacementWriter;I[J)I" } : Jvm.MethodName)) ∈ zw := zw_of (List.mem_of_getElem? (i := 857) (by decide +kernel)) (by decide +kernel)
theorem zw_858 : (Jvm.Cond.static ({ cls := "ReplacementWriterLaw", name := "fault", desc := "(LReplacementWriter;I[J)I" } : Jvm.MethodName)) ∈ zw := zw_of (List.mem_of_getElem? (i := 858) (by decide +kernel)) (by decide +kernel)
theorem zw_860 : (Jvm.Cond.methodLink "ReplacementWriterLaw" (48 : Nat) ({ cls := "ReplacementWriter", name := "fault", desc := "(I)I" } : Jvm.MethodName)) ∈ zw := zw_of (List.mem_of_getElem? (i := 860) (by decide +kernel)) (by decide +kernel)
theorem zw_861 : (Jvm.Cond.instanceMethod ({ cls := "ReplacementWriter", name := "fault", desc := "(I)I" } : Jvm.MethodName)) ∈ zw := zw_of (List.mem_of_getElem? (i := 861) (by decide +kernel)) (by decide +kernel)
theorem zw_862 : (Jvm.Cond.selects "ReplacementWriter" ({ cls := "ReplacementWriter", name := "fault", desc := "(I)I" } : Jvm.MethodName) ({ cls := "ReplacementWriter", name := "fault", desc := "(I)I" } : Jvm.MethodName)) ∈ zw := zw_of (List.mem_of_getElem? (i := 862) (by decide +kernel)) (by decide +kernel)
theorem zw_863 : (Jvm.Cond.code ({ cls := "ReplacementWriter", name := "fault", desc := "(I)I" } : Jvm.MethodName) prog_1_method_13_code (2 : Nat) (Option.some Jvm.ClassFile.FieldType.int)) ∈ zw := zw_of (List.mem_of_getElem? (i := 863) (by decide +kernel)) (by decide +kernel)
theorem zw_864 : (Jvm.Cond.classLink "ReplacementWriterLaw" (59 : Nat) "ReplacementWriterModel") ∈ zw := zw_of (List.mem_of_getElem? (i := 864) (by decide +kernel)) (by decide +kernel)
theorem zw_865 : (Jvm.Cond.instantiable "ReplacementWriterModel" (12 : Nat)) ∈ zw := zw_of (List.mem_of_getElem? (i := 865) (by decide +kernel)) (by decide +kernel)
theorem zw_866 : (Jvm.Cond.methodLink "ReplacementWriterLaw" (61 : Nat) ({ cls := "ReplacementWriterModel", name := "<init>", desc := "(I)V" } : Jvm.MethodName)) ∈ zw := zw_of (List.mem_of_getElem? (i := 866) (by decide +kernel)) (by decide +kernel)
theorem zw_867 : (Jvm.Cond.instanceMethod ({ cls := "ReplacementWriterModel", name := "<init>", desc := "(I)V" } : Jvm.MethodName)) ∈ zw := zw_of (List.mem_of_getElem? (i := 867) (by decide +kernel)) (by decide +kernel)
theorem zw_868 : (Jvm.Cond.code ({ cls := "ReplacementWriterModel", name := "<init>", desc := "(I)V" } : Jvm.MethodName) prog_13_method_1_code (2 : Nat) (Option.none : Option Jvm.ClassFile.FieldType)) ∈ zw := zw_of (List.mem_of_getElem? (i := 868) (by decide +kernel)) (by decide +kernel)
theorem zw_869 : (Jvm.Cond.methodLink "ReplacementWriterModel" (1 : Nat) ({ cls := "java/lang/Object", name := "<init>", desc := "()V" } : Jvm.MethodName)) ∈ zw := zw_of (List.mem_of_getElem? (i := 869) (by decide +kernel)) (by decide +kernel)
theorem zw_870 : (Jvm.Cond.classLink "ReplacementWriterModel" (7 : Nat) "ReplacementWriterModel$Table") ∈ zw := zw_of (List.mem_of_getElem? (i := 870) (by decide +kernel)) (by decide +kernel)
theorem zw_871 : (Jvm.Cond.instantiable "ReplacementWriterModel$Table" (6 : Nat)) ∈ zw := zw_of (List.mem_of_getElem? (i := 871) (by decide +kernel)) (by decide +kernel)
theorem zw_872 : (Jvm.Cond.methodLink "ReplacementWriterModel" (9 : Nat) ({ cls := "ReplacementWriterModel$Table", name := "<init>", desc := "()V" } : Jvm.MethodName)) ∈ zw := zw_of (List.mem_of_getElem? (i := 872) (by decide +kernel)) (by decide +kernel)
theorem zw_873 : (Jvm.Cond.instanceMethod ({ cls := "ReplacementWriterModel$Table", name := "<init>", desc := "()V" } : Jvm.MethodName)) ∈ zw := zw_of (List.mem_of_getElem? (i := 873) (by decide +kernel)) (by decide +kernel)
theorem zw_874 : (Jvm.Cond.code ({ cls := "ReplacementWriterModel$Table", name := "<init>", desc := "()V" } : Jvm.MethodName) prog_16_method_1_code (2 : Nat) (Option.none : Option Jvm.ClassFile.FieldType)) ∈ zw := zw_of (List.mem_of_getElem? (i := 874) (by decide +kernel)) (by decide +kernel)
theorem zw_875 : (Jvm.Cond.methodLink "ReplacementWriterModel$Table" (1 : Nat) ({ cls := "java/lang/Object", name := "<init>", desc := "()V" } : Jvm.MethodName)) ∈ zw := zw_of (List.mem_of_getElem? (i := 875) (by decide +kernel)) (by decide +kernel)
theorem zw_876 : (Jvm.Cond.methodLink "ReplacementWriterModel$Table" (31 : Nat) ({ cls := "ReplacementWriterModel$Table", name := "table0", desc := "()V" } : Jvm.MethodName)) ∈ zw := zw_of (List.mem_of_getElem? (i := 876) (by decide +kernel)) (by decide +kernel)
theorem zw_878 : (Jvm.Cond.instanceMethod ({ cls := "ReplacementWriterModel$Table", name := "table0", desc := "()V" } : Jvm.MethodName)) ∈ zw := zw_of (List.mem_of_getElem? (i := 878) (by decide +kernel)) (by decide +kernel)
theorem zw_879 : (Jvm.Cond.code ({ cls := "ReplacementWriterModel$Table", name := "table0", desc := "()V" } : Jvm.MethodName) prog_16_method_4_code (1 : Nat) (Option.none : Option Jvm.ClassFile.FieldType)) ∈ zw := zw_of (List.mem_of_getElem? (i := 879) (by decide +kernel)) (by decide +kernel)
theorem zw_880 : (Jvm.Cond.methodLink "ReplacementWriterModel$Table" (44 : Nat) ({ cls := "ReplacementWriterModel$Table", name := "kinds", desc := "(III)V" } : Jvm.MethodName)) ∈ zw := zw_of (List.mem_of_getElem? (i := 880) (by decide +kernel)) (by decide +kernel)
theorem zw_882 : (Jvm.Cond.instanceMethod ({ cls := "ReplacementWriterModel$Table", name := "kinds", desc := "(III)V" } : Jvm.MethodName)) ∈ zw := zw_of (List.mem_of_getElem? (i := 882) (by decide +kernel)) (by decide +kernel)
theorem zw_883 : (Jvm.Cond.code ({ cls := "ReplacementWriterModel$Table", name := "kinds", desc := "(III)V" } : Jvm.MethodName) prog_16_method_3_code (5 : Nat) (Option.none : Option Jvm.ClassFile.FieldType)) ∈ zw := zw_of (List.mem_of_getElem? (i := 883) (by decide +kernel)) (by decide +kernel)
theorem zw_884 : (Jvm.Cond.methodLink "ReplacementWriterModel$Table" (34 : Nat) ({ cls := "ReplacementWriterModel$Table", name := "table1", desc := "()V" } : Jvm.MethodName)) ∈ zw := zw_of (List.mem_of_getElem? (i := 884) (by decide +kernel)) (by decide +kernel)
theorem zw_886 : (Jvm.Cond.instanceMethod ({ cls := "ReplacementWriterModel$Table", name := "table1", desc := "()V" } : Jvm.MethodName)) ∈ zw := zw_of (List.mem_of_getElem? (i := 886) (by decide +kernel)) (by decide +kernel)
theorem zw_887 : (Jvm.Cond.code ({ cls := "ReplacementWriterModel$Table", name := "table1", desc := "()V" } : Jvm.MethodName) prog_16_method_5_code (1 : Nat) (Option.none : Option Jvm.ClassFile.FieldType)) ∈ zw := zw_of (List.mem_of_getElem? (i := 887) (by decide +kernel)) (by decide +kernel)
theorem zw_888 : (Jvm.Cond.methodLink "ReplacementWriterModel$Table" (37 : Nat) ({ cls := "ReplacementWriterModel$Table", name := "table2", desc := "()V" } : Jvm.MethodName)) ∈ zw := zw_of (List.mem_of_getElem? (i := 888) (by decide +kernel)) (by decide +kernel)
theorem zw_890 : (Jvm.Cond.instanceMethod ({ cls := "ReplacementWriterModel$Table", name := "table2", desc := "()V" } : Jvm.MethodName)) ∈ zw := zw_of (List.mem_of_getElem? (i := 890) (by decide +kernel)) (by decide +kernel)
theorem zw_891 : (Jvm.Cond.code ({ cls := "ReplacementWriterModel$Table", name := "table2", desc := "()V" } : Jvm.MethodName) prog_16_method_6_code (1 : Nat) (Option.none : Option Jvm.ClassFile.FieldType)) ∈ zw := zw_of (List.mem_of_getElem? (i := 891) (by decide +kernel)) (by decide +kernel)
theorem zw_892 : (Jvm.Cond.methodLink "ReplacementWriterModel$Table" (40 : Nat) ({ cls := "ReplacementWriterModel$Table", name := "table3", desc := "()V" } : Jvm.MethodName)) ∈ zw := zw_of (List.mem_of_getElem? (i := 892) (by decide +kernel)) (by decide +kernel)
theorem zw_894 : (Jvm.Cond.instanceMethod ({ cls := "ReplacementWriterModel$Table", name := "table3", desc := "()V" } : Jvm.MethodName)) ∈ zw := zw_of (List.mem_of_getElem? (i := 894) (by decide +kernel)) (by decide +kernel)
theorem zw_895 : (Jvm.Cond.code ({ cls := "ReplacementWriterModel$Table", name := "table3", desc := "()V" } : Jvm.MethodName) prog_16_method_7_code (1 : Nat) (Option.none : Option Jvm.ClassFile.FieldType)) ∈ zw := zw_of (List.mem_of_getElem? (i := 895) (by decide +kernel)) (by decide +kernel)
theorem zw_896 : (Jvm.Cond.fieldLink "ReplacementWriterModel$Table" (7 : Nat) "ReplacementWriterModel$Table" "kind" "[B") ∈ zw := zw_of (List.mem_of_getElem? (i := 896) (by decide +kernel)) (by decide +kernel)
theorem zw_897 : (Jvm.Cond.fieldLink "ReplacementWriterModel$Table" (13 : Nat) "ReplacementWriterModel$Table" "utf" "Z") ∈ zw := zw_of (List.mem_of_getElem? (i := 897) (by decide +kernel)) (by decide +kernel)
theorem zw_898 : (Jvm.Cond.fieldLink "ReplacementWriterModel$Template" (78 : Nat) "ReplacementWriterModel$Table" "utf" "Z") ∈ zw := zw_of (List.mem_of_getElem? (i := 898) (by decide +kernel)) (by decide +kernel)
theorem zw_899 : (Jvm.Cond.fieldLink "ReplacementWriterModel" (74 : Nat) "ReplacementWriterModel$Table" "utf" "Z") ∈ zw := zw_of (List.mem_of_getElem? (i := 899) (by decide +kernel)) (by decide +kernel)
theorem zw_900 : (Jvm.Cond.fieldLink "ReplacementWriterModel$Table" (17 : Nat) "ReplacementWriterModel$Table" "ucp" "Z") ∈ zw := zw_of (List.mem_of_getElem? (i := 900) (by decide +kernel)) (by decide +kernel)
theorem zw_901 : (Jvm.Cond.fieldLink "ReplacementWriterModel$Table" (20 : Nat) "ReplacementWriterModel$Table" "last" "I") ∈ zw := zw_of (List.mem_of_getElem? (i := 901) (by decide +kernel)) (by decide +kernel)
theorem zw_902 : (Jvm.Cond.fieldLink "ReplacementWriterModel$Table" (24 : Nat) "ReplacementWriterModel$Table" "mate" "[I") ∈ zw := zw_of (List.mem_of_getElem? (i := 902) (by decide +kernel)) (by decide +kernel)
theorem zw_903 : (Jvm.Cond.fieldLink "ReplacementWriterModel$Table" (28 : Nat) "ReplacementWriterModel$Table" "mates" "I") ∈ zw := zw_of (List.mem_of_getElem? (i := 903) (by decide +kernel)) (by decide +kernel)
theorem zw_904 : (Jvm.Cond.laysFinal "ReplacementWriterModel$Table" "ReplacementWriterModel$Table" "kind" "[B") ∈ zw := zw_of (List.mem_of_getElem? (i := 904) (by decide +kernel)) (by decide +kernel)
theorem zw_906 : (Jvm.Cond.lays "ReplacementWriterModel$Table" "ReplacementWriterModel$Table" "utf" "Z") ∈ zw := zw_of (List.mem_of_getElem? (i := 906) (by decide +kernel)) (by decide +kernel)
theorem zw_908 : (Jvm.Cond.lays "ReplacementWriterModel$Table" "ReplacementWriterModel$Table" "ucp" "Z") ∈ zw := zw_of (List.mem_of_getElem? (i := 908) (by decide +kernel)) (by decide +kernel)
theorem zw_910 : (Jvm.Cond.lays "ReplacementWriterModel$Table" "ReplacementWriterModel$Table" "last" "I") ∈ zw := zw_of (List.mem_of_getElem? (i := 910) (by decide +kernel)) (by decide +kernel)
theorem zw_912 : (Jvm.Cond.laysFinal "ReplacementWriterModel$Table" "ReplacementWriterModel$Table" "mate" "[I") ∈ zw := zw_of (List.mem_of_getElem? (i := 912) (by decide +kernel)) (by decide +kernel)
theorem zw_914 : (Jvm.Cond.lays "ReplacementWriterModel$Table" "ReplacementWriterModel$Table" "mates" "I") ∈ zw := zw_of (List.mem_of_getElem? (i := 914) (by decide +kernel)) (by decide +kernel)
theorem zw_917 : (Jvm.Cond.arrayClass Jvm.ClassFile.FieldType.int) ∈ zw := zw_of (List.mem_of_getElem? (i := 917) (by decide +kernel)) (by decide +kernel)
theorem zw_918 : (Jvm.Cond.classLink "ReplacementWriterModel" (16 : Nat) "ReplacementWriterModel$Template") ∈ zw := zw_of (List.mem_of_getElem? (i := 918) (by decide +kernel)) (by decide +kernel)
theorem zw_919 : (Jvm.Cond.instantiable "ReplacementWriterModel$Template" (13 : Nat)) ∈ zw := zw_of (List.mem_of_getElem? (i := 919) (by decide +kernel)) (by decide +kernel)
theorem zw_920 : (Jvm.Cond.methodLink "ReplacementWriterModel" (18 : Nat) ({ cls := "ReplacementWriterModel$Template", name := "<init>", desc := "(LReplacementWriterModel$Table;)V" } : Jvm.MethodName)) ∈ zw := zw_of (List.mem_of_getElem? (i := 920) (by decide +kernel)) (by decide +kernel)
theorem zw_921 : (Jvm.Cond.instanceMethod ({ cls := "ReplacementWriterModel$Template", name := "<init>", desc := "(LReplacementWriterModel$Table;)V" } : Jvm.MethodName)) ∈ zw := zw_of (List.mem_of_getElem? (i := 921) (by decide +kernel)) (by decide +kernel)
theorem zw_922 : (Jvm.Cond.code ({ cls := "ReplacementWriterModel$Template", name := "<init>", desc := "(LReplacementWriterModel$Table;)V" } : Jvm.MethodName) prog_17_method_1_code (2 : Nat) (Option.none : Option Jvm.ClassFile.FieldType)) ∈ zw := zw_of (List.mem_of_getElem? (i := 922) (by decide +kernel)) (by decide +kernel)
theorem zw_923 : (Jvm.Cond.methodLink "ReplacementWriterModel$Template" (1 : Nat) ({ cls := "java/lang/Object", name := "<init>", desc := "()V" } : Jvm.MethodName)) ∈ zw := zw_of (List.mem_of_getElem? (i := 923) (by decide +kernel)) (by decide +kernel)
theorem zw_924 : (Jvm.Cond.fieldLink "ReplacementWriterModel$Template" (50 : Nat) "ReplacementWriterModel$Template" "table" "LReplacementWriterModel$Table;") ∈ zw := zw_of (List.mem_of_getElem? (i := 924) (by decide +kernel)) (by decide +kernel)
theorem zw_925 : (Jvm.Cond.fieldLink "ReplacementWriterModel$Template" (7 : Nat) "ReplacementWriterModel$Template" "source" "LReplacementWriterModel$Source;") ∈ zw := zw_of (List.mem_of_getElem? (i := 925) (by decide +kernel)) (by decide +kernel)
theorem zw_926 : (Jvm.Cond.fieldLink "ReplacementWriterModel$Template" (13 : Nat) "ReplacementWriterModel$Template" "rich" "Z") ∈ zw := zw_of (List.mem_of_getElem? (i := 926) (by decide +kernel)) (by decide +kernel)
theorem zw_927 : (Jvm.Cond.fieldLink "ReplacementWriterModel$Template" (17 : Nat) "ReplacementWriterModel$Template" "empty" "Z") ∈ zw := zw_of (List.mem_of_getElem? (i := 927) (by decide +kernel)) (by decide +kernel)
theorem zw_928 : (Jvm.Cond.fieldLink "ReplacementWriterModel$Template" (20 : Nat) "ReplacementWriterModel$Template" "unknown" "Z") ∈ zw := zw_of (List.mem_of_getElem? (i := 928) (by decide +kernel)) (by decide +kernel)
theorem zw_929 : (Jvm.Cond.fieldLink "ReplacementWriterModel$Template" (23 : Nat) "ReplacementWriterModel$Template" "t" "[I") ∈ zw := zw_of (List.mem_of_getElem? (i := 929) (by decide +kernel)) (by decide +kernel)
theorem zw_930 : (Jvm.Cond.fieldLink "ReplacementWriterModel" (136 : Nat) "ReplacementWriterModel$Template" "t" "[I") ∈ zw := zw_of (List.mem_of_getElem? (i := 930) (by decide +kernel)) (by decide +kernel)
theorem zw_931 : (Jvm.Cond.fieldLink "ReplacementWriterModel$Template" (27 : Nat) "ReplacementWriterModel$Template" "n" "I") ∈ zw := zw_of (List.mem_of_getElem? (i := 931) (by decide +kernel)) (by decide +kernel)
theorem zw_932 : (Jvm.Cond.fieldLink "ReplacementWriterModel" (139 : Nat) "ReplacementWriterModel$Template" "n" "I") ∈ zw := zw_of (List.mem_of_getElem? (i := 932) (by decide +kernel)) (by decide +kernel)
theorem zw_933 : (Jvm.Cond.fieldLink "ReplacementWriterModel$Template" (31 : Nat) "ReplacementWriterModel$Template" "out" "[B") ∈ zw := zw_of (List.mem_of_getElem? (i := 933) (by decide +kernel)) (by decide +kernel)
theorem zw_934 : (Jvm.Cond.fieldLink "ReplacementWriterModel" (147 : Nat) "ReplacementWriterModel$Template" "out" "[B") ∈ zw := zw_of (List.mem_of_getElem? (i := 934) (by decide +kernel)) (by decide +kernel)
theorem zw_935 : (Jvm.Cond.fieldLink "ReplacementWriterModel$Template" (35 : Nat) "ReplacementWriterModel$Template" "size" "I") ∈ zw := zw_of (List.mem_of_getElem? (i := 935) (by decide +kernel)) (by decide +kernel)
theorem zw_936 : (Jvm.Cond.fieldLink "ReplacementWriterModel" (135 : Nat) "ReplacementWriterModel$Template" "size" "I") ∈ zw := zw_of (List.mem_of_getElem? (i := 936) (by decide +kernel)) (by decide +kernel)
theorem zw_937 : (Jvm.Cond.fieldLink "ReplacementWriterModel$Template" (38 : Nat) "ReplacementWriterModel$Template" "mode" "I") ∈ zw := zw_of (List.mem_of_getElem? (i := 937) (by decide +kernel)) (by decide +kernel)
theorem zw_938 : (Jvm.Cond.fieldLink "ReplacementWriterModel$Template" (41 : Nat) "ReplacementWriterModel$Template" "once" "I") ∈ zw := zw_of (List.mem_of_getElem? (i := 938) (by decide +kernel)) (by decide +kernel)
theorem zw_939 : (Jvm.Cond.fieldLink "ReplacementWriterModel$Template" (44 : Nat) "ReplacementWriterModel$Template" "faultAt" "I") ∈ zw := zw_of (List.mem_of_getElem? (i := 939) (by decide +kernel)) (by decide +kernel)
theorem zw_940 : (Jvm.Cond.fieldLink "ReplacementWriterModel" (144 : Nat) "ReplacementWriterModel$Template" "faultAt" "I") ∈ zw := zw_of (List.mem_of_getElem? (i := 940) (by decide +kernel)) (by decide +kernel)
theorem zw_941 : (Jvm.Cond.fieldLink "ReplacementWriterModel$Template" (47 : Nat) "ReplacementWriterModel$Template" "i" "I") ∈ zw := zw_of (List.mem_of_getElem? (i := 941) (by decide +kernel)) (by decide +kernel)
theorem zw_942 : (Jvm.Cond.laysFinal "ReplacementWriterModel$Template" "ReplacementWriterModel$Template" "table" "LReplacementWriterModel$Table;") ∈ zw := zw_of (List.mem_of_getElem? (i := 942) (by decide +kernel)) (by decide +kernel)
theorem zw_944 : (Jvm.Cond.lays "ReplacementWriterModel$Template" "ReplacementWriterModel$Template" "source" "LReplacementWriterModel$Source;") ∈ zw := zw_of (List.mem_of_getElem? (i := 944) (by decide +kernel)) (by decide +kernel)
theorem zw_946 : (Jvm.Cond.lays "ReplacementWriterModel$Template" "ReplacementWriterModel$Template" "rich" "Z") ∈ zw := zw_of (List.mem_of_getElem? (i := 946) (by decide +kernel)) (by decide +kernel)
theorem zw_948 : (Jvm.Cond.lays "ReplacementWriterModel$Template" "ReplacementWriterModel$Template" "empty" "Z") ∈ zw := zw_of (List.mem_of_getElem? (i := 948) (by decide +kernel)) (by decide +kernel)
theorem zw_950 : (Jvm.Cond.lays "ReplacementWriterModel$Template" "ReplacementWriterModel$Template" "unknown" "Z") ∈ zw := zw_of (List.mem_of_getElem? (i := 950) (by decide +kernel)) (by decide +kernel)
theorem zw_952 : (Jvm.Cond.lays "ReplacementWriterModel$Template" "ReplacementWriterModel$Template" "t" "[I") ∈ zw := zw_of (List.mem_of_getElem? (i := 952) (by decide +kernel)) (by decide +kernel)
theorem zw_954 : (Jvm.Cond.lays "ReplacementWriterModel$Template" "ReplacementWriterModel$Template" "n" "I") ∈ zw := zw_of (List.mem_of_getElem? (i := 954) (by decide +kernel)) (by decide +kernel)
theorem zw_956 : (Jvm.Cond.lays "ReplacementWriterModel$Template" "ReplacementWriterModel$Template" "out" "[B") ∈ zw := zw_of (List.mem_of_getElem? (i := 956) (by decide +kernel)) (by decide +kernel)
theorem zw_958 : (Jvm.Cond.lays "ReplacementWriterModel$Template" "ReplacementWriterModel$Template" "size" "I") ∈ zw := zw_of (List.mem_of_getElem? (i := 958) (by decide +kernel)) (by decide +kernel)
theorem zw_960 : (Jvm.Cond.lays "ReplacementWriterModel$Template" "ReplacementWriterModel$Template" "mode" "I") ∈ zw := zw_of (List.mem_of_getElem? (i := 960) (by decide +kernel)) (by decide +kernel)
theorem zw_962 : (Jvm.Cond.lays "ReplacementWriterModel$Template" "ReplacementWriterModel$Template" "once" "I") ∈ zw := zw_of (List.mem_of_getElem? (i := 962) (by decide +kernel)) (by decide +kernel)
theorem zw_964 : (Jvm.Cond.lays "ReplacementWriterModel$Template" "ReplacementWriterModel$Template" "faultAt" "I") ∈ zw := zw_of (List.mem_of_getElem? (i := 964) (by decide +kernel)) (by decide +kernel)
theorem zw_966 : (Jvm.Cond.lays "ReplacementWriterModel$Template" "ReplacementWriterModel$Template" "i" "I") ∈ zw := zw_of (List.mem_of_getElem? (i := 966) (by decide +kernel)) (by decide +kernel)
theorem zw_969 : (Jvm.Cond.classLink "ReplacementWriterModel" (25 : Nat) "ReplacementWriterModel$Holder") ∈ zw := zw_of (List.mem_of_getElem? (i := 969) (by decide +kernel)) (by decide +kernel)
theorem zw_970 : (Jvm.Cond.instantiable "ReplacementWriterModel$Holder" (5 : Nat)) ∈ zw := zw_of (List.mem_of_getElem? (i := 970) (by decide +kernel)) (by decide +kernel)
theorem zw_972 : (Jvm.Cond.instanceMethod ({ cls := "ReplacementWriterModel$Holder", name := "<init>", desc := "()V" } : Jvm.MethodName)) ∈ zw := zw_of (List.mem_of_getElem? (i := 972) (by decide +kernel)) (by decide +kernel)
theorem zw_973 : (Jvm.Cond.code ({ cls := "ReplacementWriterModel$Holder", name := "<init>", desc := "()V" } : Jvm.MethodName) prog_14_method_1_code (1 : Nat) (Option.none : Option Jvm.ClassFile.FieldType)) ∈ zw := zw_of (List.mem_of_getElem? (i := 973) (by decide +kernel)) (by decide +kernel)
theorem zw_974 : (Jvm.Cond.methodLink "ReplacementWriterModel$Holder" (1 : Nat) ({ cls := "java/lang/Object", name := "<init>", desc := "()V" } : Jvm.MethodName)) ∈ zw := zw_of (List.mem_of_getElem? (i := 974) (by decide +kernel)) (by decide +kernel)
theorem zw_975 : (Jvm.Cond.classLink "ReplacementWriterModel$Holder" (13 : Nat) "[I") ∈ zw := zw_of (List.mem_of_getElem? (i := 975) (by decide +kernel)) (by decide +kernel)
theorem zw_977 : (Jvm.Cond.classLink "ReplacementWriterModel$Holder" (19 : Nat) "java/util/ArrayList") ∈ zw := zw_of (List.mem_of_getElem? (i := 977) (by decide +kernel)) (by decide +kernel)
theorem zw_978 : (Jvm.Cond.methodLink "ReplacementWriterModel$Holder" (21 : Nat) ({ cls := "java/util/ArrayList", name := "<init>", desc := "()V" } : Jvm.MethodName)) ∈ zw := zw_of (List.mem_of_getElem? (i := 978) (by decide +kernel)) (by decide +kernel)
theorem zw_979 : (Jvm.Cond.fieldLink "ReplacementWriterModel$Holder" (7 : Nat) "ReplacementWriterModel$Holder" "groups" "I") ∈ zw := zw_of (List.mem_of_getElem? (i := 979) (by decide +kernel)) (by decide +kernel)
theorem zw_980 : (Jvm.Cond.fieldLink "ReplacementWriterModel" (80 : Nat) "ReplacementWriterModel$Holder" "groups" "I") ∈ zw := zw_of (List.mem_of_getElem? (i := 980) (by decide +kernel)) (by decide +kernel)
theorem zw_981 : (Jvm.Cond.fieldLink "ReplacementWriterModel$Holder" (15 : Nat) "ReplacementWriterModel$Holder" "held" "[[I") ∈ zw := zw_of (List.mem_of_getElem? (i := 981) (by decide +kernel)) (by decide +kernel)
theorem zw_982 : (Jvm.Cond.fieldLink "ReplacementWriterModel" (83 : Nat) "ReplacementWriterModel$Holder" "held" "[[I") ∈ zw := zw_of (List.mem_of_getElem? (i := 982) (by decide +kernel)) (by decide +kernel)
theorem zw_983 : (Jvm.Cond.fieldLink "ReplacementWriterModel$Holder" (22 : Nat) "ReplacementWriterModel$Holder" "names" "Ljava/util/ArrayList;") ∈ zw := zw_of (List.mem_of_getElem? (i := 983) (by decide +kernel)) (by decide +kernel)
theorem zw_984 : (Jvm.Cond.fieldLink "ReplacementWriterModel" (87 : Nat) "ReplacementWriterModel$Holder" "names" "Ljava/util/ArrayList;") ∈ zw := zw_of (List.mem_of_getElem? (i := 984) (by decide +kernel)) (by decide +kernel)
theorem zw_985 : (Jvm.Cond.fieldLink "ReplacementWriterModel$Holder" (26 : Nat) "ReplacementWriterModel$Holder" "numbers" "Ljava/util/ArrayList;") ∈ zw := zw_of (List.mem_of_getElem? (i := 985) (by decide +kernel)) (by decide +kernel)
theorem zw_986 : (Jvm.Cond.fieldLink "ReplacementWriterModel" (96 : Nat) "ReplacementWriterModel$Holder" "numbers" "Ljava/util/ArrayList;") ∈ zw := zw_of (List.mem_of_getElem? (i := 986) (by decide +kernel)) (by decide +kernel)
theorem zw_987 : (Jvm.Cond.fieldLink "ReplacementWriterModel$Holder" (29 : Nat) "ReplacementWriterModel$Holder" "mark" "[I") ∈ zw := zw_of (List.mem_of_getElem? (i := 987) (by decide +kernel)) (by decide +kernel)
theorem zw_988 : (Jvm.Cond.fieldLink "ReplacementWriterModel" (99 : Nat) "ReplacementWriterModel$Holder" "mark" "[I") ∈ zw := zw_of (List.mem_of_getElem? (i := 988) (by decide +kernel)) (by decide +kernel)
theorem zw_989 : (Jvm.Cond.lays "ReplacementWriterModel$Holder" "ReplacementWriterModel$Holder" "groups" "I") ∈ zw := zw_of (List.mem_of_getElem? (i := 989) (by decide +kernel)) (by decide +kernel)
theorem zw_991 : (Jvm.Cond.laysFinal "ReplacementWriterModel$Holder" "ReplacementWriterModel$Holder" "held" "[[I") ∈ zw := zw_of (List.mem_of_getElem? (i := 991) (by decide +kernel)) (by decide +kernel)
theorem zw_993 : (Jvm.Cond.laysFinal "ReplacementWriterModel$Holder" "ReplacementWriterModel$Holder" "names" "Ljava/util/ArrayList;") ∈ zw := zw_of (List.mem_of_getElem? (i := 993) (by decide +kernel)) (by decide +kernel)
theorem zw_995 : (Jvm.Cond.laysFinal "ReplacementWriterModel$Holder" "ReplacementWriterModel$Holder" "numbers" "Ljava/util/ArrayList;") ∈ zw := zw_of (List.mem_of_getElem? (i := 995) (by decide +kernel)) (by decide +kernel)
theorem zw_997 : (Jvm.Cond.lays "ReplacementWriterModel$Holder" "ReplacementWriterModel$Holder" "mark" "[I") ∈ zw := zw_of (List.mem_of_getElem? (i := 997) (by decide +kernel)) (by decide +kernel)
theorem zw_1000 : (Jvm.Cond.constant "ReplacementWriterModel" (32 : Nat) (65536 : Int32)) ∈ zw := zw_of (List.mem_of_getElem? (i := 1000) (by decide +kernel)) (by decide +kernel)
theorem zw_1001 : (Jvm.Cond.constant "ReplacementWriterModel" (55 : Nat) (65537 : Int32)) ∈ zw := zw_of (List.mem_of_getElem? (i := 1001) (by decide +kernel)) (by decide +kernel)
theorem zw_1002 : (Jvm.Cond.methodLink "ReplacementWriterModel" (65 : Nat) ({ cls := "ReplacementWriterModel$Table", name := "mode", desc := "(ZZ)V" } : Jvm.MethodName)) ∈ zw := zw_of (List.mem_of_getElem? (i := 1002) (by decide +kernel)) (by decide +kernel)
theorem zw_1003 : (Jvm.Cond.instanceMethod ({ cls := "ReplacementWriterModel$Table", name := "mode", desc := "(ZZ)V" } : Jvm.MethodName)) ∈ zw := zw_of (List.mem_of_getElem? (i := 1003) (by decide +kernel)) (by decide +kernel)
theorem zw_1004 : (Jvm.Cond.selects "ReplacementWriterModel$Table" ({ cls := "ReplacementWriterModel$Table", name := "mode", desc := "(ZZ)V" } : Jvm.MethodName) ({ cls := "ReplacementWriterModel$Table", name := "mode", desc := "(ZZ)V" } : Jvm.MethodName)) ∈ zw := zw_of (List.mem_of_getElem? (i := 1004) (by decide +kernel)) (by decide +kernel)
theorem zw_1005 : (Jvm.Cond.code ({ cls := "ReplacementWriterModel$Table", name := "mode", desc := "(ZZ)V" } : Jvm.MethodName) prog_16_method_2_code (3 : Nat) (Option.none : Option Jvm.ClassFile.FieldType)) ∈ zw := zw_of (List.mem_of_getElem? (i := 1005) (by decide +kernel)) (by decide +kernel)
theorem zw_1006 : (Jvm.Cond.constant "ReplacementWriterModel$Table" (43 : Nat) (1114111 : Int32)) ∈ zw := zw_of (List.mem_of_getElem? (i := 1006) (by decide +kernel)) (by decide +kernel)
theorem zw_1007 : (Jvm.Cond.fieldLink "ReplacementWriterModel" (10 : Nat) "ReplacementWriterModel" "table" "LReplacementWriterModel$Table;") ∈ zw := zw_of (List.mem_of_getElem? (i := 1007) (by decide +kernel)) (by decide +kernel)
theorem zw_1008 : (Jvm.Cond.fieldLink "ReplacementWriterModel" (21 : Nat) "ReplacementWriterModel" "template" "LReplacementWriterModel$Template;") ∈ zw := zw_of (List.mem_of_getElem? (i := 1008) (by decide +kernel)) (by decide +kernel)
theorem zw_1009 : (Jvm.Cond.fieldLink "ReplacementWriterModel" (28 : Nat) "ReplacementWriterModel" "holder" "LReplacementWriterModel$Holder;") ∈ zw := zw_of (List.mem_of_getElem? (i := 1009) (by decide +kernel)) (by decide +kernel)
theorem zw_1010 : (Jvm.Cond.fieldLink "ReplacementWriterModel" (33 : Nat) "ReplacementWriterModel" "text" "[B") ∈ zw := zw_of (List.mem_of_getElem? (i := 1010) (by decide +kernel)) (by decide +kernel)
theorem zw_1011 : (Jvm.Cond.fieldLink "ReplacementWriterModel" (37 : Nat) "ReplacementWriterModel" "size" "I") ∈ zw := zw_of (List.mem_of_getElem? (i := 1011) (by decide +kernel)) (by decide +kernel)
theorem zw_1012 : (Jvm.Cond.fieldLink "ReplacementWriterModel" (41 : Nat) "ReplacementWriterModel" "thrown" "I") ∈ zw := zw_of (List.mem_of_getElem? (i := 1012) (by decide +kernel)) (by decide +kernel)
theorem zw_1013 : (Jvm.Cond.fieldLink "ReplacementWriterModel" (44 : Nat) "ReplacementWriterModel" "code" "I") ∈ zw := zw_of (List.mem_of_getElem? (i := 1013) (by decide +kernel)) (by decide +kernel)
theorem zw_1014 : (Jvm.Cond.fieldLink "ReplacementWriterModel" (47 : Nat) "ReplacementWriterModel" "result" "Z") ∈ zw := zw_of (List.mem_of_getElem? (i := 1014) (by decide +kernel)) (by decide +kernel)
theorem zw_1015 : (Jvm.Cond.fieldLink "ReplacementWriterModel" (51 : Nat) "ReplacementWriterModel" "ch" "[I") ∈ zw := zw_of (List.mem_of_getElem? (i := 1015) (by decide +kernel)) (by decide +kernel)
theorem zw_1016 : (Jvm.Cond.fieldLink "ReplacementWriterModel" (56 : Nat) "ReplacementWriterModel" "place" "[I") ∈ zw := zw_of (List.mem_of_getElem? (i := 1016) (by decide +kernel)) (by decide +kernel)
theorem zw_1017 : (Jvm.Cond.fieldLink "ReplacementWriterModel" (59 : Nat) "ReplacementWriterModel" "n" "I") ∈ zw := zw_of (List.mem_of_getElem? (i := 1017) (by decide +kernel)) (by decide +kernel)
theorem zw_1018 : (Jvm.Cond.fieldLink "ReplacementWriterModel" (62 : Nat) "ReplacementWriterModel" "badAt" "I") ∈ zw := zw_of (List.mem_of_getElem? (i := 1018) (by decide +kernel)) (by decide +kernel)
theorem zw_1019 : (Jvm.Cond.laysFinal "ReplacementWriterModel" "ReplacementWriterModel" "table" "LReplacementWriterModel$Table;") ∈ zw := zw_of (List.mem_of_getElem? (i := 1019) (by decide +kernel)) (by decide +kernel)
theorem zw_1021 : (Jvm.Cond.laysFinal "ReplacementWriterModel" "ReplacementWriterModel" "template" "LReplacementWriterModel$Template;") ∈ zw := zw_of (List.mem_of_getElem? (i := 1021) (by decide +kernel)) (by decide +kernel)
theorem zw_1023 : (Jvm.Cond.laysFinal "ReplacementWriterModel" "ReplacementWriterModel" "holder" "LReplacementWriterModel$Holder;") ∈ zw := zw_of (List.mem_of_getElem? (i := 1023) (by decide +kernel)) (by decide +kernel)
theorem zw_1025 : (Jvm.Cond.laysFinal "ReplacementWriterModel" "ReplacementWriterModel" "text" "[B") ∈ zw := zw_of (List.mem_of_getElem? (i := 1025) (by decide +kernel)) (by decide +kernel)
theorem zw_1027 : (Jvm.Cond.lays "ReplacementWriterModel" "ReplacementWriterModel" "size" "I") ∈ zw := zw_of (List.mem_of_getElem? (i := 1027) (by decide +kernel)) (by decide +kernel)
theorem zw_1029 : (Jvm.Cond.lays "ReplacementWriterModel" "ReplacementWriterModel" "thrown" "I") ∈ zw := zw_of (List.mem_of_getElem? (i := 1029) (by decide +kernel)) (by decide +kernel)
theorem zw_1031 : (Jvm.Cond.lays "ReplacementWriterModel" "ReplacementWriterModel" "code" "I") ∈ zw := zw_of (List.mem_of_getElem? (i := 1031) (by decide +kernel)) (by decide +kernel)
theorem zw_1033 : (Jvm.Cond.lays "ReplacementWriterModel" "ReplacementWriterModel" "result" "Z") ∈ zw := zw_of (List.mem_of_getElem? (i := 1033) (by decide +kernel)) (by decide +kernel)
theorem zw_1035 : (Jvm.Cond.laysFinal "ReplacementWriterModel" "ReplacementWriterModel" "ch" "[I") ∈ zw := zw_of (List.mem_of_getElem? (i := 1035) (by decide +kernel)) (by decide +kernel)
theorem zw_1037 : (Jvm.Cond.laysFinal "ReplacementWriterModel" "ReplacementWriterModel" "place" "[I") ∈ zw := zw_of (List.mem_of_getElem? (i := 1037) (by decide +kernel)) (by decide +kernel)
theorem zw_1039 : (Jvm.Cond.lays "ReplacementWriterModel" "ReplacementWriterModel" "n" "I") ∈ zw := zw_of (List.mem_of_getElem? (i := 1039) (by decide +kernel)) (by decide +kernel)
theorem zw_1041 : (Jvm.Cond.lays "ReplacementWriterModel" "ReplacementWriterModel" "badAt" "I") ∈ zw := zw_of (List.mem_of_getElem? (i := 1041) (by decide +kernel)) (by decide +kernel)
theorem zw_1044 : (Jvm.Cond.methodLink "ReplacementWriterLaw" (66 : Nat) ({ cls := "ReplacementWriterModel", name := "thrown", desc := "()I" } : Jvm.MethodName)) ∈ zw := zw_of (List.mem_of_getElem? (i := 1044) (by decide +kernel)) (by decide +kernel)
theorem zw_1045 : (Jvm.Cond.instanceMethod ({ cls := "ReplacementWriterModel", name := "thrown", desc := "()I" } : Jvm.MethodName)) ∈ zw := zw_of (List.mem_of_getElem? (i := 1045) (by decide +kernel)) (by decide +kernel)
theorem zw_1046 : (Jvm.Cond.selects "ReplacementWriterModel" ({ cls := "ReplacementWriterModel", name := "thrown", desc := "()I" } : Jvm.MethodName) ({ cls := "ReplacementWriterModel", name := "thrown", desc := "()I" } : Jvm.MethodName)) ∈ zw := zw_of (List.mem_of_getElem? (i := 1046) (by decide +kernel)) (by decide +kernel)
theorem zw_1047 : (Jvm.Cond.code ({ cls := "ReplacementWriterModel", name := "thrown", desc := "()I" } : Jvm.MethodName) prog_13_method_2_code (1 : Nat) (Option.some Jvm.ClassFile.FieldType.int)) ∈ zw := zw_of (List.mem_of_getElem? (i := 1047) (by decide +kernel)) (by decide +kernel)
theorem zw_1048 : (Jvm.Cond.methodLink "ReplacementWriterLaw" (65 : Nat) ({ cls := "ReplacementWriterModel", name := "feed", desc := "(IIIII)I" } : Jvm.MethodName)) ∈ zw := zw_of (List.mem_of_getElem? (i := 1048) (by decide +kernel)) (by decide +kernel)
theorem zw_1049 : (Jvm.Cond.instanceMethod ({ cls := "ReplacementWriterModel", name := "feed", desc := "(IIIII)I" } : Jvm.MethodName)) ∈ zw := zw_of (List.mem_of_getElem? (i := 1049) (by decide +kernel)) (by decide +kernel)
theorem zw_1050 : (Jvm.Cond.selects "ReplacementWriterModel" ({ cls := "ReplacementWriterModel", name := "feed", desc := "(IIIII)I" } : Jvm.MethodName) ({ cls := "ReplacementWriterModel", name := "feed", desc := "(IIIII)I" } : Jvm.MethodName)) ∈ zw := zw_of (List.mem_of_getElem? (i := 1050) (by decide +kernel)) (by decide +kernel)
theorem zw_1051 : (Jvm.Cond.code ({ cls := "ReplacementWriterModel", name := "feed", desc := "(IIIII)I" } : Jvm.MethodName) prog_13_method_4_code (8 : Nat) (Option.some Jvm.ClassFile.FieldType.int)) ∈ zw := zw_of (List.mem_of_getElem? (i := 1051) (by decide +kernel)) (by decide +kernel)
theorem zw_1052 : (Jvm.Cond.constant "ReplacementWriterModel" (69 : Nat) (65516 : Int32)) ∈ zw := zw_of (List.mem_of_getElem? (i := 1052) (by decide +kernel)) (by decide +kernel)
theorem zw_1053 : (Jvm.Cond.methodLink "ReplacementWriterModel" (70 : Nat) ({ cls := "ReplacementWriterModel", name := "refuse", desc := "(IZ)Z" } : Jvm.MethodName)) ∈ zw := zw_of (List.mem_of_getElem? (i := 1053) (by decide +kernel)) (by decide +kernel)
theorem zw_1055 : (Jvm.Cond.instanceMethod ({ cls := "ReplacementWriterModel", name := "refuse", desc := "(IZ)Z" } : Jvm.MethodName)) ∈ zw := zw_of (List.mem_of_getElem? (i := 1055) (by decide +kernel)) (by decide +kernel)
theorem zw_1056 : (Jvm.Cond.code ({ cls := "ReplacementWriterModel", name := "refuse", desc := "(IZ)Z" } : Jvm.MethodName) prog_13_method_3_code (3 : Nat) (Option.some Jvm.ClassFile.FieldType.boolean)) ∈ zw := zw_of (List.mem_of_getElem? (i := 1056) (by decide +kernel)) (by decide +kernel)
theorem zw_1057 : (Jvm.Cond.methodLink "ReplacementWriterLaw" (72 : Nat) ({ cls := "ReplacementWriterModel", name := "end", desc := "(I)I" } : Jvm.MethodName)) ∈ zw := zw_of (List.mem_of_getElem? (i := 1057) (by decide +kernel)) (by decide +kernel)
theorem zw_1058 : (Jvm.Cond.instanceMethod ({ cls := "ReplacementWriterModel", name := "end", desc := "(I)I" } : Jvm.MethodName)) ∈ zw := zw_of (List.mem_of_getElem? (i := 1058) (by decide +kernel)) (by decide +kernel)
theorem zw_1059 : (Jvm.Cond.selects "ReplacementWriterModel" ({ cls := "ReplacementWriterModel", name := "end", desc := "(I)I" } : Jvm.MethodName) ({ cls := "ReplacementWriterModel", name := "end", desc := "(I)I" } : Jvm.MethodName)) ∈ zw := zw_of (List.mem_of_getElem? (i := 1059) (by decide +kernel)) (by decide +kernel)
theorem zw_1060 : (Jvm.Cond.code ({ cls := "ReplacementWriterModel", name := "end", desc := "(I)I" } : Jvm.MethodName) prog_13_method_5_code (2 : Nat) (Option.some Jvm.ClassFile.FieldType.int)) ∈ zw := zw_of (List.mem_of_getElem? (i := 1060) (by decide +kernel)) (by decide +kernel)
theorem zw_1061 : (Jvm.Cond.methodLink "ReplacementWriterLaw" (76 : Nat) ({ cls := "ReplacementWriterModel", name := "groups", desc := "(I)V" } : Jvm.MethodName)) ∈ zw := zw_of (List.mem_of_getElem? (i := 1061) (by decide +kernel)) (by decide +kernel)
theorem zw_1062 : (Jvm.Cond.instanceMethod ({ cls := "ReplacementWriterModel", name := "groups", desc := "(I)V" } : Jvm.MethodName)) ∈ zw := zw_of (List.mem_of_getElem? (i := 1062) (by decide +kernel)) (by decide +kernel)
theorem zw_1063 : (Jvm.Cond.selects "ReplacementWriterModel" ({ cls := "ReplacementWriterModel", name := "groups", desc := "(I)V" } : Jvm.MethodName) ({ cls := "ReplacementWriterModel", name := "groups", desc := "(I)V" } : Jvm.MethodName)) ∈ zw := zw_of (List.mem_of_getElem? (i := 1063) (by decide +kernel)) (by decide +kernel)
theorem zw_1064 : (Jvm.Cond.code ({ cls := "ReplacementWriterModel", name := "groups", desc := "(I)V" } : Jvm.MethodName) prog_13_method_7_code (3 : Nat) (Option.none : Option Jvm.ClassFile.FieldType)) ∈ zw := zw_of (List.mem_of_getElem? (i := 1064) (by decide +kernel)) (by decide +kernel)
theorem zw_1065 : (Jvm.Cond.methodLink "ReplacementWriterModel" (91 : Nat) ({ cls := "java/util/ArrayList", name := "clear", desc := "()V" } : Jvm.MethodName)) ∈ zw := zw_of (List.mem_of_getElem? (i := 1065) (by decide +kernel)) (by decide +kernel)
theorem zw_1066 : (Jvm.Cond.methodLink "ReplacementWriterLaw" (79 : Nat) ({ cls := "ReplacementWriterModel", name := "set", desc := "(I)I" } : Jvm.MethodName)) ∈ zw := zw_of (List.mem_of_getElem? (i := 1066) (by decide +kernel)) (by decide +kernel)
theorem zw_1067 : (Jvm.Cond.instanceMethod ({ cls := "ReplacementWriterModel", name := "set", desc := "(I)I" } : Jvm.MethodName)) ∈ zw := zw_of (List.mem_of_getElem? (i := 1067) (by decide +kernel)) (by decide +kernel)
theorem zw_1068 : (Jvm.Cond.selects "ReplacementWriterModel" ({ cls := "ReplacementWriterModel", name := "set", desc := "(I)I" } : Jvm.MethodName) ({ cls := "ReplacementWriterModel", name := "set", desc := "(I)I" } : Jvm.MethodName)) ∈ zw := zw_of (List.mem_of_getElem? (i := 1068) (by decide +kernel)) (by decide +kernel)
theorem zw_1069 : (Jvm.Cond.code ({ cls := "ReplacementWriterModel", name := "set", desc := "(I)I" } : Jvm.MethodName) prog_13_method_9_code (2 : Nat) (Option.some Jvm.ClassFile.FieldType.int)) ∈ zw := zw_of (List.mem_of_getElem? (i := 1069) (by decide +kernel)) (by decide +kernel)
theorem zw_1070 : (Jvm.Cond.methodLink "ReplacementWriterModel" (108 : Nat) ({ cls := "ReplacementWriterModel", name := "characters", desc := "()I" } : Jvm.MethodName)) ∈ zw := zw_of (List.mem_of_getElem? (i := 1070) (by decide +kernel)) (by decide +kernel)
theorem zw_1072 : (Jvm.Cond.instanceMethod ({ cls := "ReplacementWriterModel", name := "characters", desc := "()I" } : Jvm.MethodName)) ∈ zw := zw_of (List.mem_of_getElem? (i := 1072) (by decide +kernel)) (by decide +kernel)
theorem zw_1073 : (Jvm.Cond.code ({ cls := "ReplacementWriterModel", name := "characters", desc := "()I" } : Jvm.MethodName) prog_13_method_6_code (7 : Nat) (Option.some Jvm.ClassFile.FieldType.int)) ∈ zw := zw_of (List.mem_of_getElem? (i := 1073) (by decide +kernel)) (by decide +kernel)
theorem zw_1074 : (Jvm.Cond.constant "ReplacementWriterModel" (77 : Nat) (1114111 : Int32)) ∈ zw := zw_of (List.mem_of_getElem? (i := 1074) (by decide +kernel)) (by decide +kernel)
theorem zw_1075 : (Jvm.Cond.constant "ReplacementWriterModel" (78 : Nat) (55296 : Int32)) ∈ zw := zw_of (List.mem_of_getElem? (i := 1075) (by decide +kernel)) (by decide +kernel)
theorem zw_1076 : (Jvm.Cond.constant "ReplacementWriterModel" (79 : Nat) (57343 : Int32)) ∈ zw := zw_of (List.mem_of_getElem? (i := 1076) (by decide +kernel)) (by decide +kernel)
theorem zw_1077 : (Jvm.Cond.methodLink "ReplacementWriterModel" (112 : Nat) ({ cls := "ReplacementWriterModel", name := "taken", desc := "()[I" } : Jvm.MethodName)) ∈ zw := zw_of (List.mem_of_getElem? (i := 1077) (by decide +kernel)) (by decide +kernel)
theorem zw_1079 : (Jvm.Cond.instanceMethod ({ cls := "ReplacementWriterModel", name := "taken", desc := "()[I" } : Jvm.MethodName)) ∈ zw := zw_of (List.mem_of_getElem? (i := 1079) (by decide +kernel)) (by decide +kernel)
theorem zw_1080 : (Jvm.Cond.code ({ cls := "ReplacementWriterModel", name := "taken", desc := "()[I" } : Jvm.MethodName) prog_13_method_8_code (2 : Nat) (Option.some (Jvm.ClassFile.FieldType.array Jvm.ClassFile.FieldType.int))) ∈ zw := zw_of (List.mem_of_getElem? (i := 1080) (by decide +kernel)) (by decide +kernel)
theorem zw_1081 : (Jvm.Cond.methodLink "ReplacementWriterModel" (102 : Nat) ({ cls := "java/lang/System", name := "arraycopy", desc := "(Ljava/lang/Object;ILjava/lang/Object;II)V" } : Jvm.MethodName)) ∈ zw := zw_of (List.mem_of_getElem? (i := 1081) (by decide +kernel)) (by decide +kernel)
theorem zw_1082 : (Jvm.Cond.methodLink "ReplacementWriterLaw" (82 : Nat) ({ cls := "ReplacementWriterModel", name := "unset", desc := "(I)V" } : Jvm.MethodName)) ∈ zw := zw_of (List.mem_of_getElem? (i := 1082) (by decide +kernel)) (by decide +kernel)
theorem zw_1083 : (Jvm.Cond.instanceMethod ({ cls := "ReplacementWriterModel", name := "unset", desc := "(I)V" } : Jvm.MethodName)) ∈ zw := zw_of (List.mem_of_getElem? (i := 1083) (by decide +kernel)) (by decide +kernel)
theorem zw_1084 : (Jvm.Cond.selects "ReplacementWriterModel" ({ cls := "ReplacementWriterModel", name := "unset", desc := "(I)V" } : Jvm.MethodName) ({ cls := "ReplacementWriterModel", name := "unset", desc := "(I)V" } : Jvm.MethodName)) ∈ zw := zw_of (List.mem_of_getElem? (i := 1084) (by decide +kernel)) (by decide +kernel)
theorem zw_1085 : (Jvm.Cond.code ({ cls := "ReplacementWriterModel", name := "unset", desc := "(I)V" } : Jvm.MethodName) prog_13_method_10_code (2 : Nat) (Option.none : Option Jvm.ClassFile.FieldType)) ∈ zw := zw_of (List.mem_of_getElem? (i := 1085) (by decide +kernel)) (by decide +kernel)
theorem zw_1086 : (Jvm.Cond.methodLink "ReplacementWriterLaw" (85 : Nat) ({ cls := "ReplacementWriterModel", name := "name", desc := "(I)I" } : Jvm.MethodName)) ∈ zw := zw_of (List.mem_of_getElem? (i := 1086) (by decide +kernel)) (by decide +kernel)
theorem zw_1087 : (Jvm.Cond.instanceMethod ({ cls := "ReplacementWriterModel", name := "name", desc := "(I)I" } : Jvm.MethodName)) ∈ zw := zw_of (List.mem_of_getElem? (i := 1087) (by decide +kernel)) (by decide +kernel)
theorem zw_1088 : (Jvm.Cond.selects "ReplacementWriterModel" ({ cls := "ReplacementWriterModel", name := "name", desc := "(I)I" } : Jvm.MethodName) ({ cls := "ReplacementWriterModel", name := "name", desc := "(I)I" } : Jvm.MethodName)) ∈ zw := zw_of (List.mem_of_getElem? (i := 1088) (by decide +kernel)) (by decide +kernel)
theorem zw_1089 : (Jvm.Cond.code ({ cls := "ReplacementWriterModel", name := "name", desc := "(I)I" } : Jvm.MethodName) prog_13_method_11_code (4 : Nat) (Option.some Jvm.ClassFile.FieldType.int)) ∈ zw := zw_of (List.mem_of_getElem? (i := 1089) (by decide +kernel)) (by decide +kernel)
theorem zw_1091 : (Jvm.Cond.static ({ cls := "ReplacementWriterModel$Template", name := "digit", desc := "(I)Z" } : Jvm.MethodName)) ∈ zw := zw_of (List.mem_of_getElem? (i := 1091) (by decide +kernel)) (by decide +kernel)
theorem zw_1092 : (Jvm.Cond.code ({ cls := "ReplacementWriterModel$Template", name := "digit", desc := "(I)Z" } : Jvm.MethodName) prog_17_method_7_code (1 : Nat) (Option.some Jvm.ClassFile.FieldType.boolean)) ∈ zw := zw_of (List.mem_of_getElem? (i := 1092) (by decide +kernel)) (by decide +kernel)
theorem zw_1094 : (Jvm.Cond.static ({ cls := "ReplacementWriterModel$Template", name := "wordly", desc := "(I)Z" } : Jvm.MethodName)) ∈ zw := zw_of (List.mem_of_getElem? (i := 1094) (by decide +kernel)) (by decide +kernel)
theorem zw_1095 : (Jvm.Cond.code ({ cls := "ReplacementWriterModel$Template", name := "wordly", desc := "(I)Z" } : Jvm.MethodName) prog_17_method_9_code (1 : Nat) (Option.some Jvm.ClassFile.FieldType.boolean)) ∈ zw := zw_of (List.mem_of_getElem? (i := 1095) (by decide +kernel)) (by decide +kernel)
theorem zw_1096 : (Jvm.Cond.methodLink "ReplacementWriterModel$Template" (85 : Nat) ({ cls := "ReplacementWriterModel$Template", name := "letter", desc := "(I)Z" } : Jvm.MethodName)) ∈ zw := zw_of (List.mem_of_getElem? (i := 1096) (by decide +kernel)) (by decide +kernel)
theorem zw_1097 : (Jvm.Cond.static ({ cls := "ReplacementWriterModel$Template", name := "letter", desc := "(I)Z" } : Jvm.MethodName)) ∈ zw := zw_of (List.mem_of_getElem? (i := 1097) (by decide +kernel)) (by decide +kernel)
theorem zw_1098 : (Jvm.Cond.code ({ cls := "ReplacementWriterModel$Template", name := "letter", desc := "(I)Z" } : Jvm.MethodName) prog_17_method_8_code (1 : Nat) (Option.some Jvm.ClassFile.FieldType.boolean)) ∈ zw := zw_of (List.mem_of_getElem? (i := 1098) (by decide +kernel)) (by decide +kernel)
theorem zw_1099 : (Jvm.Cond.methodLink "ReplacementWriterModel$Template" (88 : Nat) ({ cls := "ReplacementWriterModel$Template", name := "digit", desc := "(I)Z" } : Jvm.MethodName)) ∈ zw := zw_of (List.mem_of_getElem? (i := 1099) (by decide +kernel)) (by decide +kernel)
theorem zw_1100 : (Jvm.Cond.methodLink "ReplacementWriterModel" (123 : Nat) ({ cls := "java/util/ArrayList", name := "add", desc := "(Ljava/lang/Object;)Z" } : Jvm.MethodName)) ∈ zw := zw_of (List.mem_of_getElem? (i := 1100) (by decide +kernel)) (by decide +kernel)
theorem zw_1101 : (Jvm.Cond.methodLink "ReplacementWriterModel" (127 : Nat) ({ cls := "java/lang/Integer", name := "valueOf", desc := "(I)Ljava/lang/Integer;" } : Jvm.MethodName)) ∈ zw := zw_of (List.mem_of_getElem? (i := 1101) (by decide +kernel)) (by decide +kernel)
theorem zw_1102 : (Jvm.Cond.static ({ cls := "java/lang/Integer", name := "valueOf", desc := "(I)Ljava/lang/Integer;" } : Jvm.MethodName)) ∈ zw := zw_of (List.mem_of_getElem? (i := 1102) (by decide +kernel)) (by decide +kernel)
theorem zw_1103 : (Jvm.Cond.code ({ cls := "java/lang/Integer", name := "valueOf", desc := "(I)Ljava/lang/Integer;" } : Jvm.MethodName) prog_25_method_22_code (1 : Nat) (Option.some (Jvm.ClassFile.FieldType.object "java/lang/Integer"))) ∈ zw := zw_of (List.mem_of_getElem? (i := 1103) (by decide +kernel)) (by decide +kernel)
theorem zw_1104 : (Jvm.Cond.fieldLink "java/lang/Integer" (191 : Nat) "java/lang/Integer$IntegerCache" "high" "I") ∈ zw := zw_of (List.mem_of_getElem? (i := 1104) (by decide +kernel)) (by decide +kernel)
theorem zw_1106 : (Jvm.Cond.fieldLink "java/lang/Integer" (195 : Nat) "java/lang/Integer$IntegerCache" "cache" "[Ljava/lang/Integer;") ∈ zw := zw_of (List.mem_of_getElem? (i := 1106) (by decide +kernel)) (by decide +kernel)
theorem zw_1108 : (Jvm.Cond.classLink "java/lang/Integer" (1 : Nat) "java/lang/Integer") ∈ zw := zw_of (List.mem_of_getElem? (i := 1108) (by decide +kernel)) (by decide +kernel)
theorem zw_1109 : (Jvm.Cond.instantiable "java/lang/Integer" (1 : Nat)) ∈ zw := zw_of (List.mem_of_getElem? (i := 1109) (by decide +kernel)) (by decide +kernel)
theorem zw_1110 : (Jvm.Cond.methodLink "java/lang/Integer" (199 : Nat) ({ cls := "java/lang/Integer", name := "<init>", desc := "(I)V" } : Jvm.MethodName)) ∈ zw := zw_of (List.mem_of_getElem? (i := 1110) (by decide +kernel)) (by decide +kernel)
theorem zw_1111 : (Jvm.Cond.instanceMethod ({ cls := "java/lang/Integer", name := "<init>", desc := "(I)V" } : Jvm.MethodName)) ∈ zw := zw_of (List.mem_of_getElem? (i := 1111) (by decide +kernel)) (by decide +kernel)
theorem zw_1112 : (Jvm.Cond.code ({ cls := "java/lang/Integer", name := "<init>", desc := "(I)V" } : Jvm.MethodName) prog_25_method_23_code (2 : Nat) (Option.none : Option Jvm.ClassFile.FieldType)) ∈ zw := zw_of (List.mem_of_getElem? (i := 1112) (by decide +kernel)) (by decide +kernel)
theorem zw_1113 : (Jvm.Cond.methodLink "java/lang/Integer" (202 : Nat) ({ cls := "java/lang/Number", name := "<init>", desc := "()V" } : Jvm.MethodName)) ∈ zw := zw_of (List.mem_of_getElem? (i := 1113) (by decide +kernel)) (by decide +kernel)
theorem zw_1114 : (Jvm.Cond.instanceMethod ({ cls := "java/lang/Number", name := "<init>", desc := "()V" } : Jvm.MethodName)) ∈ zw := zw_of (List.mem_of_getElem? (i := 1114) (by decide +kernel)) (by decide +kernel)
theorem zw_1115 : (Jvm.Cond.code ({ cls := "java/lang/Number", name := "<init>", desc := "()V" } : Jvm.MethodName) prog_29_method_1_code (1 : Nat) (Option.none : Option Jvm.ClassFile.FieldType)) ∈ zw := zw_of (List.mem_of_getElem? (i := 1115) (by decide +kernel)) (by decide +kernel)
theorem zw_1116 : (Jvm.Cond.methodLink "java/lang/Number" (1 : Nat) ({ cls := "java/lang/Object", name := "<init>", desc := "()V" } : Jvm.MethodName)) ∈ zw := zw_of (List.mem_of_getElem? (i := 1116) (by decide +kernel)) (by decide +kernel)
theorem zw_1117 : (Jvm.Cond.fieldLink "java/lang/Integer" (205 : Nat) "java/lang/Integer" "value" "I") ∈ zw := zw_of (List.mem_of_getElem? (i := 1117) (by decide +kernel)) (by decide +kernel)
theorem zw_1118 : (Jvm.Cond.laysFinal "java/lang/Integer" "java/lang/Integer" "value" "I") ∈ zw := zw_of (List.mem_of_getElem? (i := 1118) (by decide +kernel)) (by decide +kernel)
theorem zw_1121 : (Jvm.Cond.methodLink "ReplacementWriterModel" (133 : Nat) ({ cls := "java/util/ArrayList", name := "size", desc := "()I" } : Jvm.MethodName)) ∈ zw := zw_of (List.mem_of_getElem? (i := 1121) (by decide +kernel)) (by decide +kernel)
theorem zw_1122 : (Jvm.Cond.methodLink "ReplacementWriterLaw" (89 : Nat) ({ cls := "ReplacementWriterModel", name := "mark", desc := "()I" } : Jvm.MethodName)) ∈ zw := zw_of (List.mem_of_getElem? (i := 1122) (by decide +kernel)) (by decide +kernel)
theorem zw_1123 : (Jvm.Cond.instanceMethod ({ cls := "ReplacementWriterModel", name := "mark", desc := "()I" } : Jvm.MethodName)) ∈ zw := zw_of (List.mem_of_getElem? (i := 1123) (by decide +kernel)) (by decide +kernel)
theorem zw_1124 : (Jvm.Cond.selects "ReplacementWriterModel" ({ cls := "ReplacementWriterModel", name := "mark", desc := "()I" } : Jvm.MethodName) ({ cls := "ReplacementWriterModel", name := "mark", desc := "()I" } : Jvm.MethodName)) ∈ zw := zw_of (List.mem_of_getElem? (i := 1124) (by decide +kernel)) (by decide +kernel)
theorem zw_1125 : (Jvm.Cond.code ({ cls := "ReplacementWriterModel", name := "mark", desc := "()I" } : Jvm.MethodName) prog_13_method_12_code (1 : Nat) (Option.some Jvm.ClassFile.FieldType.int)) ∈ zw := zw_of (List.mem_of_getElem? (i := 1125) (by decide +kernel)) (by decide +kernel)
theorem zw_1126 : (Jvm.Cond.methodLink "ReplacementWriterLaw" (92 : Nat) ({ cls := "ReplacementWriterModel", name := "write", desc := "(I)I" } : Jvm.MethodName)) ∈ zw := zw_of (List.mem_of_getElem? (i := 1126) (by decide +kernel)) (by decide +kernel)
theorem zw_1127 : (Jvm.Cond.instanceMethod ({ cls := "ReplacementWriterModel", name := "write", desc := "(I)I" } : Jvm.MethodName)) ∈ zw := zw_of (List.mem_of_getElem? (i := 1127) (by decide +kernel)) (by decide +kernel)
theorem zw_1128 : (Jvm.Cond.selects "ReplacementWriterModel" ({ cls := "ReplacementWriterModel", name := "write", desc := "(I)I" } : Jvm.MethodName) ({ cls := "ReplacementWriterModel", name := "write", desc := "(I)I" } : Jvm.MethodName)) ∈ zw := zw_of (List.mem_of_getElem? (i := 1128) (by decide +kernel)) (by decide +kernel)
theorem zw_1129 : (Jvm.Cond.code ({ cls := "ReplacementWriterModel", name := "write", desc := "(I)I" } : Jvm.MethodName) prog_13_method_13_code (2 : Nat) (Option.some Jvm.ClassFile.FieldType.int)) ∈ zw := zw_of (List.mem_of_getElem? (i := 1129) (by decide +kernel)) (by decide +kernel)
theorem zw_1130 : (Jvm.Cond.methodLink "ReplacementWriterModel" (140 : Nat) ({ cls := "ReplacementWriterModel$Template", name := "write", desc := "(LReplacementWriterModel$Source;I)I" } : Jvm.MethodName)) ∈ zw := zw_of (List.mem_of_getElem? (i := 1130) (by decide +kernel)) (by decide +kernel)
theorem zw_1131 : (Jvm.Cond.instanceMethod ({ cls := "ReplacementWriterModel$Template", name := "write", desc := "(LReplacementWriterModel$Source;I)I" } : Jvm.MethodName)) ∈ zw := zw_of (List.mem_of_getElem? (i := 1131) (by decide +kernel)) (by decide +kernel)
theorem zw_1132 : (Jvm.Cond.selects "ReplacementWriterModel$Template" ({ cls := "ReplacementWriterModel$Template", name := "write", desc := "(LReplacementWriterModel$Source;I)I" } : Jvm.MethodName) ({ cls := "ReplacementWriterModel$Template", name := "write", desc := "(LReplacementWriterModel$Source;I)I" } : Jvm.MethodName)) ∈ zw := zw_of (List.mem_of_getElem? (i := 1132) (by decide +kernel)) (by decide +kernel)
theorem zw_1133 : (Jvm.Cond.code ({ cls := "ReplacementWriterModel$Template", name := "write", desc := "(LReplacementWriterModel$Source;I)I" } : Jvm.MethodName) prog_17_method_12_code (4 : Nat) (Option.some Jvm.ClassFile.FieldType.int)) ∈ zw := zw_of (List.mem_of_getElem? (i := 1133) (by decide +kernel)) (by decide +kernel)
theorem zw_1134 : (Jvm.Cond.methodLink "ReplacementWriterModel$Template" (67 : Nat) ({ cls := "ReplacementWriterModel$Template", name := "put", desc := "(I)Z" } : Jvm.MethodName)) ∈ zw := zw_of (List.mem_of_getElem? (i := 1134) (by decide +kernel)) (by decide +kernel)
theorem zw_1135 : (Jvm.Cond.instanceMethod ({ cls := "ReplacementWriterModel$Template", name := "put", desc := "(I)Z" } : Jvm.MethodName)) ∈ zw := zw_of (List.mem_of_getElem? (i := 1135) (by decide +kernel)) (by decide +kernel)
theorem zw_1136 : (Jvm.Cond.selects "ReplacementWriterModel$Template" ({ cls := "ReplacementWriterModel$Template", name := "put", desc := "(I)Z" } : Jvm.MethodName) ({ cls := "ReplacementWriterModel$Template", name := "put", desc := "(I)Z" } : Jvm.MethodName)) ∈ zw := zw_of (List.mem_of_getElem? (i := 1136) (by decide +kernel)) (by decide +kernel)
theorem zw_1137 : (Jvm.Cond.code ({ cls := "ReplacementWriterModel$Template", name := "put", desc := "(I)Z" } : Jvm.MethodName) prog_17_method_5_code (2 : Nat) (Option.some Jvm.ClassFile.FieldType.boolean)) ∈ zw := zw_of (List.mem_of_getElem? (i := 1137) (by decide +kernel)) (by decide +kernel)
theorem zw_1138 : (Jvm.Cond.methodLink "ReplacementWriterModel$Template" (81 : Nat) ({ cls := "ReplacementWriterModel$Template", name := "bytes", desc := "(I)Z" } : Jvm.MethodName)) ∈ zw := zw_of (List.mem_of_getElem? (i := 1138) (by decide +kernel)) (by decide +kernel)
theorem zw_1140 : (Jvm.Cond.instanceMethod ({ cls := "ReplacementWriterModel$Template", name := "bytes", desc := "(I)Z" } : Jvm.MethodName)) ∈ zw := zw_of (List.mem_of_getElem? (i := 1140) (by decide +kernel)) (by decide +kernel)
theorem zw_1141 : (Jvm.Cond.code ({ cls := "ReplacementWriterModel$Template", name := "bytes", desc := "(I)Z" } : Jvm.MethodName) prog_17_method_4_code (3 : Nat) (Option.some Jvm.ClassFile.FieldType.boolean)) ∈ zw := zw_of (List.mem_of_getElem? (i := 1141) (by decide +kernel)) (by decide +kernel)
theorem zw_1142 : (Jvm.Cond.constant "ReplacementWriterModel$Template" (71 : Nat) (262144 : Int32)) ∈ zw := zw_of (List.mem_of_getElem? (i := 1142) (by decide +kernel)) (by decide +kernel)
theorem zw_1143 : (Jvm.Cond.methodLink "ReplacementWriterModel$Template" (72 : Nat) ({ cls := "java/lang/System", name := "arraycopy", desc := "(Ljava/lang/Object;ILjava/lang/Object;II)V" } : Jvm.MethodName)) ∈ zw := zw_of (List.mem_of_getElem? (i := 1143) (by decide +kernel)) (by decide +kernel)
theorem zw_1144 : (Jvm.Cond.constant "ReplacementWriterModel$Template" (84 : Nat) (65536 : Int32)) ∈ zw := zw_of (List.mem_of_getElem? (i := 1144) (by decide +kernel)) (by decide +kernel)
theorem zw_1145 : (Jvm.Cond.methodLink "ReplacementWriterModel$Template" (104 : Nat) ({ cls := "ReplacementWriterModel$Template", name := "part", desc := "(III)I" } : Jvm.MethodName)) ∈ zw := zw_of (List.mem_of_getElem? (i := 1145) (by decide +kernel)) (by decide +kernel)
theorem zw_1147 : (Jvm.Cond.instanceMethod ({ cls := "ReplacementWriterModel$Template", name := "part", desc := "(III)I" } : Jvm.MethodName)) ∈ zw := zw_of (List.mem_of_getElem? (i := 1147) (by decide +kernel)) (by decide +kernel)
theorem zw_1148 : (Jvm.Cond.code ({ cls := "ReplacementWriterModel$Template", name := "part", desc := "(III)I" } : Jvm.MethodName) prog_17_method_13_code (6 : Nat) (Option.some Jvm.ClassFile.FieldType.int)) ∈ zw := zw_of (List.mem_of_getElem? (i := 1148) (by decide +kernel)) (by decide +kernel)
theorem zw_1149 : (Jvm.Cond.methodLink "ReplacementWriterModel$Template" (108 : Nat) ({ cls := "ReplacementWriterModel$Template", name := "dollar", desc := "(II)I" } : Jvm.MethodName)) ∈ zw := zw_of (List.mem_of_getElem? (i := 1149) (by decide +kernel)) (by decide +kernel)
theorem zw_1151 : (Jvm.Cond.instanceMethod ({ cls := "ReplacementWriterModel$Template", name := "dollar", desc := "(II)I" } : Jvm.MethodName)) ∈ zw := zw_of (List.mem_of_getElem? (i := 1151) (by decide +kernel)) (by decide +kernel)
theorem zw_1152 : (Jvm.Cond.code ({ cls := "ReplacementWriterModel$Template", name := "dollar", desc := "(II)I" } : Jvm.MethodName) prog_17_method_14_code (8 : Nat) (Option.some Jvm.ClassFile.FieldType.int)) ∈ zw := zw_of (List.mem_of_getElem? (i := 1152) (by decide +kernel)) (by decide +kernel)
theorem zw_1153 : (Jvm.Cond.methodLink "ReplacementWriterModel$Template" (97 : Nat) ({ cls := "ReplacementWriterModel$Template", name := "see", desc := "(II)I" } : Jvm.MethodName)) ∈ zw := zw_of (List.mem_of_getElem? (i := 1153) (by decide +kernel)) (by decide +kernel)
theorem zw_1155 : (Jvm.Cond.instanceMethod ({ cls := "ReplacementWriterModel$Template", name := "see", desc := "(II)I" } : Jvm.MethodName)) ∈ zw := zw_of (List.mem_of_getElem? (i := 1155) (by decide +kernel)) (by decide +kernel)
theorem zw_1156 : (Jvm.Cond.code ({ cls := "ReplacementWriterModel$Template", name := "see", desc := "(II)I" } : Jvm.MethodName) prog_17_method_6_code (3 : Nat) (Option.some Jvm.ClassFile.FieldType.int)) ∈ zw := zw_of (List.mem_of_getElem? (i := 1156) (by decide +kernel)) (by decide +kernel)
theorem zw_1157 : (Jvm.Cond.methodLink "ReplacementWriterModel$Template" (114 : Nat) ({ cls := "ReplacementWriterModel$Template", name := "one", desc := "(I)Z" } : Jvm.MethodName)) ∈ zw := zw_of (List.mem_of_getElem? (i := 1157) (by decide +kernel)) (by decide +kernel)
theorem zw_1158 : (Jvm.Cond.instanceMethod ({ cls := "ReplacementWriterModel$Template", name := "one", desc := "(I)Z" } : Jvm.MethodName)) ∈ zw := zw_of (List.mem_of_getElem? (i := 1158) (by decide +kernel)) (by decide +kernel)
theorem zw_1159 : (Jvm.Cond.selects "ReplacementWriterModel$Template" ({ cls := "ReplacementWriterModel$Template", name := "one", desc := "(I)Z" } : Jvm.MethodName) ({ cls := "ReplacementWriterModel$Template", name := "one", desc := "(I)Z" } : Jvm.MethodName)) ∈ zw := zw_of (List.mem_of_getElem? (i := 1159) (by decide +kernel)) (by decide +kernel)
theorem zw_1160 : (Jvm.Cond.code ({ cls := "ReplacementWriterModel$Template", name := "one", desc := "(I)Z" } : Jvm.MethodName) prog_17_method_3_code (3 : Nat) (Option.some Jvm.ClassFile.FieldType.boolean)) ∈ zw := zw_of (List.mem_of_getElem? (i := 1160) (by decide +kernel)) (by decide +kernel)
theorem zw_1161 : (Jvm.Cond.methodLink "ReplacementWriterModel$Template" (63 : Nat) ({ cls := "ReplacementWriterModel$Template", name := "cased", desc := "(II)I" } : Jvm.MethodName)) ∈ zw := zw_of (List.mem_of_getElem? (i := 1161) (by decide +kernel)) (by decide +kernel)
theorem zw_1163 : (Jvm.Cond.instanceMethod ({ cls := "ReplacementWriterModel$Template", name := "cased", desc := "(II)I" } : Jvm.MethodName)) ∈ zw := zw_of (List.mem_of_getElem? (i := 1163) (by decide +kernel)) (by decide +kernel)
theorem zw_1164 : (Jvm.Cond.code ({ cls := "ReplacementWriterModel$Template", name := "cased", desc := "(II)I" } : Jvm.MethodName) prog_17_method_2_code (3 : Nat) (Option.some Jvm.ClassFile.FieldType.int)) ∈ zw := zw_of (List.mem_of_getElem? (i := 1164) (by decide +kernel)) (by decide +kernel)
theorem zw_1165 : (Jvm.Cond.methodLink "ReplacementWriterModel$Template" (54 : Nat) ({ cls := "ReplacementWriterModel$Table", name := "upper", desc := "(I)I" } : Jvm.MethodName)) ∈ zw := zw_of (List.mem_of_getElem? (i := 1165) (by decide +kernel)) (by decide +kernel)
theorem zw_1166 : (Jvm.Cond.instanceMethod ({ cls := "ReplacementWriterModel$Table", name := "upper", desc := "(I)I" } : Jvm.MethodName)) ∈ zw := zw_of (List.mem_of_getElem? (i := 1166) (by decide +kernel)) (by decide +kernel)
theorem zw_1167 : (Jvm.Cond.selects "ReplacementWriterModel$Table" ({ cls := "ReplacementWriterModel$Table", name := "upper", desc := "(I)I" } : Jvm.MethodName) ({ cls := "ReplacementWriterModel$Table", name := "upper", desc := "(I)I" } : Jvm.MethodName)) ∈ zw := zw_of (List.mem_of_getElem? (i := 1167) (by decide +kernel)) (by decide +kernel)
theorem zw_1168 : (Jvm.Cond.code ({ cls := "ReplacementWriterModel$Table", name := "upper", desc := "(I)I" } : Jvm.MethodName) prog_16_method_16_code (4 : Nat) (Option.some Jvm.ClassFile.FieldType.int)) ∈ zw := zw_of (List.mem_of_getElem? (i := 1168) (by decide +kernel)) (by decide +kernel)
theorem zw_1169 : (Jvm.Cond.methodLink "ReplacementWriterModel$Table" (57 : Nat) ({ cls := "ReplacementWriterModel$Table", name := "category", desc := "(I)I" } : Jvm.MethodName)) ∈ zw := zw_of (List.mem_of_getElem? (i := 1169) (by decide +kernel)) (by decide +kernel)
theorem zw_1170 : (Jvm.Cond.instanceMethod ({ cls := "ReplacementWriterModel$Table", name := "category", desc := "(I)I" } : Jvm.MethodName)) ∈ zw := zw_of (List.mem_of_getElem? (i := 1170) (by decide +kernel)) (by decide +kernel)
theorem zw_1171 : (Jvm.Cond.selects "ReplacementWriterModel$Table" ({ cls := "ReplacementWriterModel$Table", name := "category", desc := "(I)I" } : Jvm.MethodName) ({ cls := "ReplacementWriterModel$Table", name := "category", desc := "(I)I" } : Jvm.MethodName)) ∈ zw := zw_of (List.mem_of_getElem? (i := 1171) (by decide +kernel)) (by decide +kernel)
theorem zw_1172 : (Jvm.Cond.code ({ cls := "ReplacementWriterModel$Table", name := "category", desc := "(I)I" } : Jvm.MethodName) prog_16_method_8_code (2 : Nat) (Option.some Jvm.ClassFile.FieldType.int)) ∈ zw := zw_of (List.mem_of_getElem? (i := 1172) (by decide +kernel)) (by decide +kernel)
theorem zw_1173 : (Jvm.Cond.constant "ReplacementWriterModel$Table" (48 : Nat) (40959 : Int32)) ∈ zw := zw_of (List.mem_of_getElem? (i := 1173) (by decide +kernel)) (by decide +kernel)
theorem zw_1174 : (Jvm.Cond.constant "ReplacementWriterModel$Table" (49 : Nat) (44032 : Int32)) ∈ zw := zw_of (List.mem_of_getElem? (i := 1174) (by decide +kernel)) (by decide +kernel)
theorem zw_1175 : (Jvm.Cond.constant "ReplacementWriterModel$Table" (50 : Nat) (55203 : Int32)) ∈ zw := zw_of (List.mem_of_getElem? (i := 1175) (by decide +kernel)) (by decide +kernel)
theorem zw_1176 : (Jvm.Cond.constant "ReplacementWriterModel$Table" (51 : Nat) (57344 : Int32)) ∈ zw := zw_of (List.mem_of_getElem? (i := 1176) (by decide +kernel)) (by decide +kernel)
theorem zw_1177 : (Jvm.Cond.constant "ReplacementWriterModel$Table" (52 : Nat) (63743 : Int32)) ∈ zw := zw_of (List.mem_of_getElem? (i := 1177) (by decide +kernel)) (by decide +kernel)
theorem zw_1178 : (Jvm.Cond.constant "ReplacementWriterModel$Table" (53 : Nat) (65039 : Int32)) ∈ zw := zw_of (List.mem_of_getElem? (i := 1178) (by decide +kernel)) (by decide +kernel)
theorem zw_1179 : (Jvm.Cond.constant "ReplacementWriterModel$Table" (54 : Nat) (65279 : Int32)) ∈ zw := zw_of (List.mem_of_getElem? (i := 1179) (by decide +kernel)) (by decide +kernel)
theorem zw_1180 : (Jvm.Cond.constant "ReplacementWriterModel$Table" (55 : Nat) (127744 : Int32)) ∈ zw := zw_of (List.mem_of_getElem? (i := 1180) (by decide +kernel)) (by decide +kernel)
theorem zw_1181 : (Jvm.Cond.constant "ReplacementWriterModel$Table" (56 : Nat) (128591 : Int32)) ∈ zw := zw_of (List.mem_of_getElem? (i := 1181) (by decide +kernel)) (by decide +kernel)
theorem zw_1182 : (Jvm.Cond.methodLink "ReplacementWriterModel$Table" (78 : Nat) ({ cls := "ReplacementWriterModel$Table", name := "caseOf", desc := "(I)V" } : Jvm.MethodName)) ∈ zw := zw_of (List.mem_of_getElem? (i := 1182) (by decide +kernel)) (by decide +kernel)
theorem zw_1183 : (Jvm.Cond.instanceMethod ({ cls := "ReplacementWriterModel$Table", name := "caseOf", desc := "(I)V" } : Jvm.MethodName)) ∈ zw := zw_of (List.mem_of_getElem? (i := 1183) (by decide +kernel)) (by decide +kernel)
theorem zw_1184 : (Jvm.Cond.selects "ReplacementWriterModel$Table" ({ cls := "ReplacementWriterModel$Table", name := "caseOf", desc := "(I)V" } : Jvm.MethodName) ({ cls := "ReplacementWriterModel$Table", name := "caseOf", desc := "(I)V" } : Jvm.MethodName)) ∈ zw := zw_of (List.mem_of_getElem? (i := 1184) (by decide +kernel)) (by decide +kernel)
theorem zw_1185 : (Jvm.Cond.code ({ cls := "ReplacementWriterModel$Table", name := "caseOf", desc := "(I)V" } : Jvm.MethodName) prog_16_method_15_code (4 : Nat) (Option.none : Option Jvm.ClassFile.FieldType)) ∈ zw := zw_of (List.mem_of_getElem? (i := 1185) (by decide +kernel)) (by decide +kernel)
theorem zw_1186 : (Jvm.Cond.methodLink "ReplacementWriterModel$Table" (71 : Nat) ({ cls := "ReplacementWriterModel$Table", name := "first", desc := "(I)I" } : Jvm.MethodName)) ∈ zw := zw_of (List.mem_of_getElem? (i := 1186) (by decide +kernel)) (by decide +kernel)
theorem zw_1188 : (Jvm.Cond.instanceMethod ({ cls := "ReplacementWriterModel$Table", name := "first", desc := "(I)I" } : Jvm.MethodName)) ∈ zw := zw_of (List.mem_of_getElem? (i := 1188) (by decide +kernel)) (by decide +kernel)
theorem zw_1189 : (Jvm.Cond.code ({ cls := "ReplacementWriterModel$Table", name := "first", desc := "(I)I" } : Jvm.MethodName) prog_16_method_14_code (2 : Nat) (Option.some Jvm.ClassFile.FieldType.int)) ∈ zw := zw_of (List.mem_of_getElem? (i := 1189) (by decide +kernel)) (by decide +kernel)
theorem zw_1190 : (Jvm.Cond.methodLink "ReplacementWriterModel$Table" (65 : Nat) ({ cls := "ReplacementWriterModel$Table", name := "third", desc := "(I)I" } : Jvm.MethodName)) ∈ zw := zw_of (List.mem_of_getElem? (i := 1190) (by decide +kernel)) (by decide +kernel)
theorem zw_1192 : (Jvm.Cond.instanceMethod ({ cls := "ReplacementWriterModel$Table", name := "third", desc := "(I)I" } : Jvm.MethodName)) ∈ zw := zw_of (List.mem_of_getElem? (i := 1192) (by decide +kernel)) (by decide +kernel)
theorem zw_1193 : (Jvm.Cond.code ({ cls := "ReplacementWriterModel$Table", name := "third", desc := "(I)I" } : Jvm.MethodName) prog_16_method_13_code (2 : Nat) (Option.some Jvm.ClassFile.FieldType.int)) ∈ zw := zw_of (List.mem_of_getElem? (i := 1193) (by decide +kernel)) (by decide +kernel)
theorem zw_1194 : (Jvm.Cond.methodLink "ReplacementWriterModel$Table" (68 : Nat) ({ cls := "ReplacementWriterModel$Table", name := "pair", desc := "(I)I" } : Jvm.MethodName)) ∈ zw := zw_of (List.mem_of_getElem? (i := 1194) (by decide +kernel)) (by decide +kernel)
theorem zw_1196 : (Jvm.Cond.instanceMethod ({ cls := "ReplacementWriterModel$Table", name := "pair", desc := "(I)I" } : Jvm.MethodName)) ∈ zw := zw_of (List.mem_of_getElem? (i := 1196) (by decide +kernel)) (by decide +kernel)
theorem zw_1197 : (Jvm.Cond.code ({ cls := "ReplacementWriterModel$Table", name := "pair", desc := "(I)I" } : Jvm.MethodName) prog_16_method_12_code (3 : Nat) (Option.some Jvm.ClassFile.FieldType.int)) ∈ zw := zw_of (List.mem_of_getElem? (i := 1197) (by decide +kernel)) (by decide +kernel)
theorem zw_1198 : (Jvm.Cond.methodLink "ReplacementWriterModel$Table" (61 : Nat) ({ cls := "ReplacementWriterModel$Table", name := "inAny", desc := "(III)Z" } : Jvm.MethodName)) ∈ zw := zw_of (List.mem_of_getElem? (i := 1198) (by decide +kernel)) (by decide +kernel)
theorem zw_1200 : (Jvm.Cond.instanceMethod ({ cls := "ReplacementWriterModel$Table", name := "inAny", desc := "(III)Z" } : Jvm.MethodName)) ∈ zw := zw_of (List.mem_of_getElem? (i := 1200) (by decide +kernel)) (by decide +kernel)
theorem zw_1201 : (Jvm.Cond.code ({ cls := "ReplacementWriterModel$Table", name := "inAny", desc := "(III)Z" } : Jvm.MethodName) prog_16_method_11_code (4 : Nat) (Option.some Jvm.ClassFile.FieldType.boolean)) ∈ zw := zw_of (List.mem_of_getElem? (i := 1201) (by decide +kernel)) (by decide +kernel)
theorem zw_1202 : (Jvm.Cond.methodLink "ReplacementWriterModel$Table" (74 : Nat) ({ cls := "ReplacementWriterModel$Table", name := "withMate", desc := "(I)V" } : Jvm.MethodName)) ∈ zw := zw_of (List.mem_of_getElem? (i := 1202) (by decide +kernel)) (by decide +kernel)
theorem zw_1204 : (Jvm.Cond.instanceMethod ({ cls := "ReplacementWriterModel$Table", name := "withMate", desc := "(I)V" } : Jvm.MethodName)) ∈ zw := zw_of (List.mem_of_getElem? (i := 1204) (by decide +kernel)) (by decide +kernel)
theorem zw_1205 : (Jvm.Cond.code ({ cls := "ReplacementWriterModel$Table", name := "withMate", desc := "(I)V" } : Jvm.MethodName) prog_16_method_10_code (2 : Nat) (Option.none : Option Jvm.ClassFile.FieldType)) ∈ zw := zw_of (List.mem_of_getElem? (i := 1205) (by decide +kernel)) (by decide +kernel)
theorem zw_1206 : (Jvm.Cond.methodLink "ReplacementWriterModel$Template" (60 : Nat) ({ cls := "ReplacementWriterModel$Table", name := "lower", desc := "(I)I" } : Jvm.MethodName)) ∈ zw := zw_of (List.mem_of_getElem? (i := 1206) (by decide +kernel)) (by decide +kernel)
theorem zw_1207 : (Jvm.Cond.instanceMethod ({ cls := "ReplacementWriterModel$Table", name := "lower", desc := "(I)I" } : Jvm.MethodName)) ∈ zw := zw_of (List.mem_of_getElem? (i := 1207) (by decide +kernel)) (by decide +kernel)
theorem zw_1208 : (Jvm.Cond.selects "ReplacementWriterModel$Table" ({ cls := "ReplacementWriterModel$Table", name := "lower", desc := "(I)I" } : Jvm.MethodName) ({ cls := "ReplacementWriterModel$Table", name := "lower", desc := "(I)I" } : Jvm.MethodName)) ∈ zw := zw_of (List.mem_of_getElem? (i := 1208) (by decide +kernel)) (by decide +kernel)
theorem zw_1209 : (Jvm.Cond.code ({ cls := "ReplacementWriterModel$Table", name := "lower", desc := "(I)I" } : Jvm.MethodName) prog_16_method_17_code (3 : Nat) (Option.some Jvm.ClassFile.FieldType.int)) ∈ zw := zw_of (List.mem_of_getElem? (i := 1209) (by decide +kernel)) (by decide +kernel)
theorem zw_1210 : (Jvm.Cond.methodLink "ReplacementWriterModel$Template" (117 : Nat) ({ cls := "ReplacementWriterModel$Template", name := "marked", desc := "(IIZ)I" } : Jvm.MethodName)) ∈ zw := zw_of (List.mem_of_getElem? (i := 1210) (by decide +kernel)) (by decide +kernel)
theorem zw_1212 : (Jvm.Cond.instanceMethod ({ cls := "ReplacementWriterModel$Template", name := "marked", desc := "(IIZ)I" } : Jvm.MethodName)) ∈ zw := zw_of (List.mem_of_getElem? (i := 1212) (by decide +kernel)) (by decide +kernel)
theorem zw_1213 : (Jvm.Cond.code ({ cls := "ReplacementWriterModel$Template", name := "marked", desc := "(IIZ)I" } : Jvm.MethodName) prog_17_method_15_code (5 : Nat) (Option.some Jvm.ClassFile.FieldType.int)) ∈ zw := zw_of (List.mem_of_getElem? (i := 1213) (by decide +kernel)) (by decide +kernel)
theorem zw_1215 : (Jvm.Cond.methodLink "ReplacementWriterModel$Template" (153 : Nat) ({ cls := "ReplacementWriterModel$Template", name := "comes", desc := "(IILjava/lang/String;)Z" } : Jvm.MethodName)) ∈ zw := zw_of (List.mem_of_getElem? (i := 1215) (by decide +kernel)) (by decide +kernel)
theorem zw_1217 : (Jvm.Cond.instanceMethod ({ cls := "ReplacementWriterModel$Template", name := "comes", desc := "(IILjava/lang/String;)Z" } : Jvm.MethodName)) ∈ zw := zw_of (List.mem_of_getElem? (i := 1217) (by decide +kernel)) (by decide +kernel)
theorem zw_1218 : (Jvm.Cond.code ({ cls := "ReplacementWriterModel$Template", name := "comes", desc := "(IILjava/lang/String;)Z" } : Jvm.MethodName) prog_17_method_10_code (5 : Nat) (Option.some Jvm.ClassFile.FieldType.boolean)) ∈ zw := zw_of (List.mem_of_getElem? (i := 1218) (by decide +kernel)) (by decide +kernel)
theorem zw_1219 : (Jvm.Cond.methodLink "ReplacementWriterModel$Template" (91 : Nat) ({ cls := "java/lang/String", name := "length", desc := "()I" } : Jvm.MethodName)) ∈ zw := zw_of (List.mem_of_getElem? (i := 1219) (by decide +kernel)) (by decide +kernel)
theorem zw_1220 : (Jvm.Cond.instanceMethod ({ cls := "java/lang/String", name := "length", desc := "()I" } : Jvm.MethodName)) ∈ zw := zw_of (List.mem_of_getElem? (i := 1220) (by decide +kernel)) (by decide +kernel)
theorem zw_1221 : (Jvm.Cond.selects "java/lang/String" ({ cls := "java/lang/String", name := "length", desc := "()I" } : Jvm.MethodName) ({ cls := "java/lang/String", name := "length", desc := "()I" } : Jvm.MethodName)) ∈ zw := zw_of (List.mem_of_getElem? (i := 1221) (by decide +kernel)) (by decide +kernel)
theorem zw_1222 : (Jvm.Cond.code ({ cls := "java/lang/String", name := "length", desc := "()I" } : Jvm.MethodName) prog_31_method_54_code (1 : Nat) (Option.some Jvm.ClassFile.FieldType.int)) ∈ zw := zw_of (List.mem_of_getElem? (i := 1222) (by decide +kernel)) (by decide +kernel)
theorem zw_1223 : (Jvm.Cond.methodLink "java/lang/String" (335 : Nat) ({ cls := "java/lang/String", name := "coder", desc := "()B" } : Jvm.MethodName)) ∈ zw := zw_of (List.mem_of_getElem? (i := 1223) (by decide +kernel)) (by decide +kernel)
theorem zw_1224 : (Jvm.Cond.instanceMethod ({ cls := "java/lang/String", name := "coder", desc := "()B" } : Jvm.MethodName)) ∈ zw := zw_of (List.mem_of_getElem? (i := 1224) (by decide +kernel)) (by decide +kernel)
theorem zw_1225 : (Jvm.Cond.selects "java/lang/String" ({ cls := "java/lang/String", name := "coder", desc := "()B" } : Jvm.MethodName) ({ cls := "java/lang/String", name := "coder", desc := "()B" } : Jvm.MethodName)) ∈ zw := zw_of (List.mem_of_getElem? (i := 1225) (by decide +kernel)) (by decide +kernel)
theorem zw_1226 : (Jvm.Cond.code ({ cls := "java/lang/String", name := "coder", desc := "()B" } : Jvm.MethodName) prog_31_method_152_code (1 : Nat) (Option.some Jvm.ClassFile.FieldType.byte)) ∈ zw := zw_of (List.mem_of_getElem? (i := 1226) (by decide +kernel)) (by decide +kernel)
theorem zw_1227 : (Jvm.Cond.fieldLink "java/lang/String" (38 : Nat) "java/lang/String" "COMPACT_STRINGS" "Z") ∈ zw := zw_of (List.mem_of_getElem? (i := 1227) (by decide +kernel)) (by decide +kernel)
theorem zw_1229 : (Jvm.Cond.methodLink "ReplacementWriterModel$Template" (100 : Nat) ({ cls := "java/lang/String", name := "charAt", desc := "(I)C" } : Jvm.MethodName)) ∈ zw := zw_of (List.mem_of_getElem? (i := 1229) (by decide +kernel)) (by decide +kernel)
theorem zw_1230 : (Jvm.Cond.instanceMethod ({ cls := "java/lang/String", name := "charAt", desc := "(I)C" } : Jvm.MethodName)) ∈ zw := zw_of (List.mem_of_getElem? (i := 1230) (by decide +kernel)) (by decide +kernel)
theorem zw_1231 : (Jvm.Cond.selects "java/lang/String" ({ cls := "java/lang/String", name := "charAt", desc := "(I)C" } : Jvm.MethodName) ({ cls := "java/lang/String", name := "charAt", desc := "(I)C" } : Jvm.MethodName)) ∈ zw := zw_of (List.mem_of_getElem? (i := 1231) (by decide +kernel)) (by decide +kernel)
theorem zw_1232 : (Jvm.Cond.code ({ cls := "java/lang/String", name := "charAt", desc := "(I)C" } : Jvm.MethodName) prog_31_method_56_code (2 : Nat) (Option.some Jvm.ClassFile.FieldType.char)) ∈ zw := zw_of (List.mem_of_getElem? (i := 1232) (by decide +kernel)) (by decide +kernel)
theorem zw_1233 : (Jvm.Cond.methodLink "java/lang/String" (492 : Nat) ({ cls := "java/lang/String", name := "isLatin1", desc := "()Z" } : Jvm.MethodName)) ∈ zw := zw_of (List.mem_of_getElem? (i := 1233) (by decide +kernel)) (by decide +kernel)
theorem zw_1234 : (Jvm.Cond.instanceMethod ({ cls := "java/lang/String", name := "isLatin1", desc := "()Z" } : Jvm.MethodName)) ∈ zw := zw_of (List.mem_of_getElem? (i := 1234) (by decide +kernel)) (by decide +kernel)
theorem zw_1235 : (Jvm.Cond.selects "java/lang/String" ({ cls := "java/lang/String", name := "isLatin1", desc := "()Z" } : Jvm.MethodName) ({ cls := "java/lang/String", name := "isLatin1", desc := "()Z" } : Jvm.MethodName)) ∈ zw := zw_of (List.mem_of_getElem? (i := 1235) (by decide +kernel)) (by decide +kernel)
theorem zw_1236 : (Jvm.Cond.code ({ cls := "java/lang/String", name := "isLatin1", desc := "()Z" } : Jvm.MethodName) prog_31_method_154_code (1 : Nat) (Option.some Jvm.ClassFile.FieldType.boolean)) ∈ zw := zw_of (List.mem_of_getElem? (i := 1236) (by decide +kernel)) (by decide +kernel)
theorem zw_1237 : (Jvm.Cond.methodLink "java/lang/String" (495 : Nat) ({ cls := "java/lang/StringLatin1", name := "charAt", desc := "([BI)C" } : Jvm.MethodName)) ∈ zw := zw_of (List.mem_of_getElem? (i := 1237) (by decide +kernel)) (by decide +kernel)
theorem zw_1238 : (Jvm.Cond.static ({ cls := "java/lang/StringLatin1", name := "charAt", desc := "([BI)C" } : Jvm.MethodName)) ∈ zw := zw_of (List.mem_of_getElem? (i := 1238) (by decide +kernel)) (by decide +kernel)
theorem zw_1239 : (Jvm.Cond.code ({ cls := "java/lang/StringLatin1", name := "charAt", desc := "([BI)C" } : Jvm.MethodName) prog_32_method_2_code (2 : Nat) (Option.some Jvm.ClassFile.FieldType.char)) ∈ zw := zw_of (List.mem_of_getElem? (i := 1239) (by decide +kernel)) (by decide +kernel)
theorem zw_1240 : (Jvm.Cond.methodLink "java/lang/StringLatin1" (9 : Nat) ({ cls := "java/lang/String", name := "checkIndex", desc := "(II)V" } : Jvm.MethodName)) ∈ zw := zw_of (List.mem_of_getElem? (i := 1240) (by decide +kernel)) (by decide +kernel)
theorem zw_1241 : (Jvm.Cond.static ({ cls := "java/lang/String", name := "checkIndex", desc := "(II)V" } : Jvm.MethodName)) ∈ zw := zw_of (List.mem_of_getElem? (i := 1241) (by decide +kernel)) (by decide +kernel)
theorem zw_1242 : (Jvm.Cond.code ({ cls := "java/lang/String", name := "checkIndex", desc := "(II)V" } : Jvm.MethodName) prog_31_method_155_code (2 : Nat) (Option.none : Option Jvm.ClassFile.FieldType)) ∈ zw := zw_of (List.mem_of_getElem? (i := 1242) (by decide +kernel)) (by decide +kernel)
theorem zw_1243 : (Jvm.Cond.fieldLink "java/lang/String" (1053 : Nat) "jdk/internal/util/Preconditions" "SIOOBE_FORMATTER" "Ljava/util/function/BiFunction;") ∈ zw := zw_of (List.mem_of_getElem? (i := 1243) (by decide +kernel)) (by decide +kernel)
theorem zw_1245 : (Jvm.Cond.methodLink "java/lang/String" (1059 : Nat) ({ cls := "jdk/internal/util/Preconditions", name := "checkIndex", desc := "(IILjava/util/function/BiFunction;)I" } : Jvm.MethodName)) ∈ zw := zw_of (List.mem_of_getElem? (i := 1245) (by decide +kernel)) (by decide +kernel)
theorem zw_1246 : (Jvm.Cond.methodLink "java/lang/String" (498 : Nat) ({ cls := "java/lang/StringUTF16", name := "charAt", desc := "([BI)C" } : Jvm.MethodName)) ∈ zw := zw_of (List.mem_of_getElem? (i := 1246) (by decide +kernel)) (by decide +kernel)
theorem zw_1247 : (Jvm.Cond.static ({ cls := "java/lang/StringUTF16", name := "charAt", desc := "([BI)C" } : Jvm.MethodName)) ∈ zw := zw_of (List.mem_of_getElem? (i := 1247) (by decide +kernel)) (by decide +kernel)
theorem zw_1248 : (Jvm.Cond.code ({ cls := "java/lang/StringUTF16", name := "charAt", desc := "([BI)C" } : Jvm.MethodName) prog_33_method_83_code (2 : Nat) (Option.some Jvm.ClassFile.FieldType.char)) ∈ zw := zw_of (List.mem_of_getElem? (i := 1248) (by decide +kernel)) (by decide +kernel)
theorem zw_1249 : (Jvm.Cond.methodLink "java/lang/StringUTF16" (67 : Nat) ({ cls := "java/lang/StringUTF16", name := "checkIndex", desc := "(I[B)V" } : Jvm.MethodName)) ∈ zw := zw_of (List.mem_of_getElem? (i := 1249) (by decide +kernel)) (by decide +kernel)
theorem zw_1250 : (Jvm.Cond.static ({ cls := "java/lang/StringUTF16", name := "checkIndex", desc := "(I[B)V" } : Jvm.MethodName)) ∈ zw := zw_of (List.mem_of_getElem? (i := 1250) (by decide +kernel)) (by decide +kernel)
theorem zw_1251 : (Jvm.Cond.code ({ cls := "java/lang/StringUTF16", name := "checkIndex", desc := "(I[B)V" } : Jvm.MethodName) prog_33_method_91_code (2 : Nat) (Option.none : Option Jvm.ClassFile.FieldType)) ∈ zw := zw_of (List.mem_of_getElem? (i := 1251) (by decide +kernel)) (by decide +kernel)
theorem zw_1252 : (Jvm.Cond.methodLink "java/lang/StringUTF16" (48 : Nat) ({ cls := "java/lang/StringUTF16", name := "length", desc := "([B)I" } : Jvm.MethodName)) ∈ zw := zw_of (List.mem_of_getElem? (i := 1252) (by decide +kernel)) (by decide +kernel)
theorem zw_1253 : (Jvm.Cond.static ({ cls := "java/lang/StringUTF16", name := "length", desc := "([B)I" } : Jvm.MethodName)) ∈ zw := zw_of (List.mem_of_getElem? (i := 1253) (by decide +kernel)) (by decide +kernel)
theorem zw_1254 : (Jvm.Cond.code ({ cls := "java/lang/StringUTF16", name := "length", desc := "([B)I" } : Jvm.MethodName) prog_33_method_6_code (1 : Nat) (Option.some Jvm.ClassFile.FieldType.int)) ∈ zw := zw_of (List.mem_of_getElem? (i := 1254) (by decide +kernel)) (by decide +kernel)
theorem zw_1255 : (Jvm.Cond.methodLink "java/lang/StringUTF16" (414 : Nat) ({ cls := "java/lang/String", name := "checkIndex", desc := "(II)V" } : Jvm.MethodName)) ∈ zw := zw_of (List.mem_of_getElem? (i := 1255) (by decide +kernel)) (by decide +kernel)
theorem zw_1256 : (Jvm.Cond.methodLink "java/lang/StringUTF16" (71 : Nat) ({ cls := "java/lang/StringUTF16", name := "getChar", desc := "([BI)C" } : Jvm.MethodName)) ∈ zw := zw_of (List.mem_of_getElem? (i := 1256) (by decide +kernel)) (by decide +kernel)
theorem zw_1257 : (Jvm.Cond.static ({ cls := "java/lang/StringUTF16", name := "getChar", desc := "([BI)C" } : Jvm.MethodName)) ∈ zw := zw_of (List.mem_of_getElem? (i := 1257) (by decide +kernel)) (by decide +kernel)
theorem zw_1258 : (Jvm.Cond.code ({ cls := "java/lang/StringUTF16", name := "getChar", desc := "([BI)C" } : Jvm.MethodName) prog_33_method_5_code (2 : Nat) (Option.some Jvm.ClassFile.FieldType.char)) ∈ zw := zw_of (List.mem_of_getElem? (i := 1258) (by decide +kernel)) (by decide +kernel)
theorem zw_1259 : (Jvm.Cond.fieldLink "java/lang/StringUTF16" (44 : Nat) "java/lang/StringUTF16" "$assertionsDisabled" "Z") ∈ zw := zw_of (List.mem_of_getElem? (i := 1259) (by decide +kernel)) (by decide +kernel)
theorem zw_1261 : (Jvm.Cond.fieldLink "java/lang/StringUTF16" (59 : Nat) "java/lang/StringUTF16" "HI_BYTE_SHIFT" "I") ∈ zw := zw_of (List.mem_of_getElem? (i := 1261) (by decide +kernel)) (by decide +kernel)
theorem zw_1263 : (Jvm.Cond.fieldLink "java/lang/StringUTF16" (63 : Nat) "java/lang/StringUTF16" "LO_BYTE_SHIFT" "I") ∈ zw := zw_of (List.mem_of_getElem? (i := 1263) (by decide +kernel)) (by decide +kernel)
theorem zw_1265 : (Jvm.Cond.methodLink "ReplacementWriterModel$Template" (141 : Nat) ({ cls := "ReplacementWriterModel$Template", name := "fault", desc := "(II)I" } : Jvm.MethodName)) ∈ zw := zw_of (List.mem_of_getElem? (i := 1265) (by decide +kernel)) (by decide +kernel)
theorem zw_1267 : (Jvm.Cond.instanceMethod ({ cls := "ReplacementWriterModel$Template", name := "fault", desc := "(II)I" } : Jvm.MethodName)) ∈ zw := zw_of (List.mem_of_getElem? (i := 1267) (by decide +kernel)) (by decide +kernel)
theorem zw_1268 : (Jvm.Cond.code ({ cls := "ReplacementWriterModel$Template", name := "fault", desc := "(II)I" } : Jvm.MethodName) prog_17_method_11_code (3 : Nat) (Option.some Jvm.ClassFile.FieldType.int)) ∈ zw := zw_of (List.mem_of_getElem? (i := 1268) (by decide +kernel)) (by decide +kernel)
theorem zw_1270 : (Jvm.Cond.methodLink "ReplacementWriterModel$Template" (157 : Nat) ({ cls := "ReplacementWriterModel$Source", name := "markLength", desc := "()I" } : Jvm.MethodName)) ∈ zw := zw_of (List.mem_of_getElem? (i := 1270) (by decide +kernel)) (by decide +kernel)
theorem zw_1274 : (Jvm.Cond.selects "ReplacementWriterModel$Holder" ({ cls := "ReplacementWriterModel$Source", name := "markLength", desc := "()I" } : Jvm.MethodName) ({ cls := "ReplacementWriterModel$Holder", name := "markLength", desc := "()I" } : Jvm.MethodName)) ∈ zw := zw_of (List.mem_of_getElem? (i := 1274) (by decide +kernel)) (by decide +kernel)
theorem zw_1276 : (Jvm.Cond.instanceMethod ({ cls := "ReplacementWriterModel$Holder", name := "markLength", desc := "()I" } : Jvm.MethodName)) ∈ zw := zw_of (List.mem_of_getElem? (i := 1276) (by decide +kernel)) (by decide +kernel)
theorem zw_1278 : (Jvm.Cond.code ({ cls := "ReplacementWriterModel$Holder", name := "markLength", desc := "()I" } : Jvm.MethodName) prog_14_method_6_code (1 : Nat) (Option.some Jvm.ClassFile.FieldType.int)) ∈ zw := zw_of (List.mem_of_getElem? (i := 1278) (by decide +kernel)) (by decide +kernel)
theorem zw_1280 : (Jvm.Cond.methodLink "ReplacementWriterModel$Template" (160 : Nat) ({ cls := "ReplacementWriterModel$Source", name := "markAt", desc := "(I)I" } : Jvm.MethodName)) ∈ zw := zw_of (List.mem_of_getElem? (i := 1280) (by decide +kernel)) (by decide +kernel)
theorem zw_1283 : (Jvm.Cond.selects "ReplacementWriterModel$Holder" ({ cls := "ReplacementWriterModel$Source", name := "markAt", desc := "(I)I" } : Jvm.MethodName) ({ cls := "ReplacementWriterModel$Holder", name := "markAt", desc := "(I)I" } : Jvm.MethodName)) ∈ zw := zw_of (List.mem_of_getElem? (i := 1283) (by decide +kernel)) (by decide +kernel)
theorem zw_1285 : (Jvm.Cond.instanceMethod ({ cls := "ReplacementWriterModel$Holder", name := "markAt", desc := "(I)I" } : Jvm.MethodName)) ∈ zw := zw_of (List.mem_of_getElem? (i := 1285) (by decide +kernel)) (by decide +kernel)
theorem zw_1287 : (Jvm.Cond.code ({ cls := "ReplacementWriterModel$Holder", name := "markAt", desc := "(I)I" } : Jvm.MethodName) prog_14_method_7_code (2 : Nat) (Option.some Jvm.ClassFile.FieldType.int)) ∈ zw := zw_of (List.mem_of_getElem? (i := 1287) (by decide +kernel)) (by decide +kernel)
theorem zw_1288 : (Jvm.Cond.constant "ReplacementWriterModel$Template" (121 : Nat) (65535 : Int32)) ∈ zw := zw_of (List.mem_of_getElem? (i := 1288) (by decide +kernel)) (by decide +kernel)
theorem zw_1289 : (Jvm.Cond.methodLink "ReplacementWriterModel$Template" (122 : Nat) ({ cls := "java/lang/Math", name := "min", desc := "(II)I" } : Jvm.MethodName)) ∈ zw := zw_of (List.mem_of_getElem? (i := 1289) (by decide +kernel)) (by decide +kernel)
theorem zw_1291 : (Jvm.Cond.methodLink "ReplacementWriterModel$Template" (127 : Nat) ({ cls := "ReplacementWriterModel$Source", name := "groups", desc := "()I" } : Jvm.MethodName)) ∈ zw := zw_of (List.mem_of_getElem? (i := 1291) (by decide +kernel)) (by decide +kernel)
theorem zw_1294 : (Jvm.Cond.selects "ReplacementWriterModel$Holder" ({ cls := "ReplacementWriterModel$Source", name := "groups", desc := "()I" } : Jvm.MethodName) ({ cls := "ReplacementWriterModel$Holder", name := "groups", desc := "()I" } : Jvm.MethodName)) ∈ zw := zw_of (List.mem_of_getElem? (i := 1294) (by decide +kernel)) (by decide +kernel)
theorem zw_1296 : (Jvm.Cond.instanceMethod ({ cls := "ReplacementWriterModel$Holder", name := "groups", desc := "()I" } : Jvm.MethodName)) ∈ zw := zw_of (List.mem_of_getElem? (i := 1296) (by decide +kernel)) (by decide +kernel)
theorem zw_1298 : (Jvm.Cond.code ({ cls := "ReplacementWriterModel$Holder", name := "groups", desc := "()I" } : Jvm.MethodName) prog_14_method_2_code (1 : Nat) (Option.some Jvm.ClassFile.FieldType.int)) ∈ zw := zw_of (List.mem_of_getElem? (i := 1298) (by decide +kernel)) (by decide +kernel)
theorem zw_1300 : (Jvm.Cond.methodLink "ReplacementWriterModel$Template" (132 : Nat) ({ cls := "ReplacementWriterModel$Source", name := "length", desc := "(I)I" } : Jvm.MethodName)) ∈ zw := zw_of (List.mem_of_getElem? (i := 1300) (by decide +kernel)) (by decide +kernel)
theorem zw_1303 : (Jvm.Cond.selects "ReplacementWriterModel$Holder" ({ cls := "ReplacementWriterModel$Source", name := "length", desc := "(I)I" } : Jvm.MethodName) ({ cls := "ReplacementWriterModel$Holder", name := "length", desc := "(I)I" } : Jvm.MethodName)) ∈ zw := zw_of (List.mem_of_getElem? (i := 1303) (by decide +kernel)) (by decide +kernel)
theorem zw_1305 : (Jvm.Cond.instanceMethod ({ cls := "ReplacementWriterModel$Holder", name := "length", desc := "(I)I" } : Jvm.MethodName)) ∈ zw := zw_of (List.mem_of_getElem? (i := 1305) (by decide +kernel)) (by decide +kernel)
theorem zw_1307 : (Jvm.Cond.code ({ cls := "ReplacementWriterModel$Holder", name := "length", desc := "(I)I" } : Jvm.MethodName) prog_14_method_3_code (2 : Nat) (Option.some Jvm.ClassFile.FieldType.int)) ∈ zw := zw_of (List.mem_of_getElem? (i := 1307) (by decide +kernel)) (by decide +kernel)
theorem zw_1308 : (Jvm.Cond.methodLink "ReplacementWriterModel$Template" (134 : Nat) ({ cls := "ReplacementWriterModel$Template", name := "wordly", desc := "(I)Z" } : Jvm.MethodName)) ∈ zw := zw_of (List.mem_of_getElem? (i := 1308) (by decide +kernel)) (by decide +kernel)
theorem zw_1310 : (Jvm.Cond.methodLink "ReplacementWriterModel$Template" (137 : Nat) ({ cls := "ReplacementWriterModel$Source", name := "named", desc := "([III)I" } : Jvm.MethodName)) ∈ zw := zw_of (List.mem_of_getElem? (i := 1310) (by decide +kernel)) (by decide +kernel)
theorem zw_1313 : (Jvm.Cond.selects "ReplacementWriterModel$Holder" ({ cls := "ReplacementWriterModel$Source", name := "named", desc := "([III)I" } : Jvm.MethodName) ({ cls := "ReplacementWriterModel$Holder", name := "named", desc := "([III)I" } : Jvm.MethodName)) ∈ zw := zw_of (List.mem_of_getElem? (i := 1313) (by decide +kernel)) (by decide +kernel)
theorem zw_1315 : (Jvm.Cond.instanceMethod ({ cls := "ReplacementWriterModel$Holder", name := "named", desc := "([III)I" } : Jvm.MethodName)) ∈ zw := zw_of (List.mem_of_getElem? (i := 1315) (by decide +kernel)) (by decide +kernel)
theorem zw_1317 : (Jvm.Cond.code ({ cls := "ReplacementWriterModel$Holder", name := "named", desc := "([III)I" } : Jvm.MethodName) prog_14_method_5_code (9 : Nat) (Option.some Jvm.ClassFile.FieldType.int)) ∈ zw := zw_of (List.mem_of_getElem? (i := 1317) (by decide +kernel)) (by decide +kernel)
theorem zw_1318 : (Jvm.Cond.methodLink "ReplacementWriterModel$Holder" (32 : Nat) ({ cls := "java/util/ArrayList", name := "size", desc := "()I" } : Jvm.MethodName)) ∈ zw := zw_of (List.mem_of_getElem? (i := 1318) (by decide +kernel)) (by decide +kernel)
theorem zw_1319 : (Jvm.Cond.methodLink "ReplacementWriterModel$Holder" (36 : Nat) ({ cls := "java/util/ArrayList", name := "get", desc := "(I)Ljava/lang/Object;" } : Jvm.MethodName)) ∈ zw := zw_of (List.mem_of_getElem? (i := 1319) (by decide +kernel)) (by decide +kernel)
theorem zw_1320 : (Jvm.Cond.classLink "ReplacementWriterModel$Holder" (40 : Nat) "java/lang/Integer") ∈ zw := zw_of (List.mem_of_getElem? (i := 1320) (by decide +kernel)) (by decide +kernel)
theorem zw_1321 : (Jvm.Cond.methodLink "ReplacementWriterModel$Holder" (42 : Nat) ({ cls := "java/lang/Integer", name := "intValue", desc := "()I" } : Jvm.MethodName)) ∈ zw := zw_of (List.mem_of_getElem? (i := 1321) (by decide +kernel)) (by decide +kernel)
theorem zw_1322 : (Jvm.Cond.instanceMethod ({ cls := "java/lang/Integer", name := "intValue", desc := "()I" } : Jvm.MethodName)) ∈ zw := zw_of (List.mem_of_getElem? (i := 1322) (by decide +kernel)) (by decide +kernel)
theorem zw_1323 : (Jvm.Cond.selects "java/lang/Integer" ({ cls := "java/lang/Integer", name := "intValue", desc := "()I" } : Jvm.MethodName) ({ cls := "java/lang/Integer", name := "intValue", desc := "()I" } : Jvm.MethodName)) ∈ zw := zw_of (List.mem_of_getElem? (i := 1323) (by decide +kernel)) (by decide +kernel)
theorem zw_1324 : (Jvm.Cond.code ({ cls := "java/lang/Integer", name := "intValue", desc := "()I" } : Jvm.MethodName) prog_25_method_27_code (1 : Nat) (Option.some Jvm.ClassFile.FieldType.int)) ∈ zw := zw_of (List.mem_of_getElem? (i := 1324) (by decide +kernel)) (by decide +kernel)
theorem zw_1325 : (Jvm.Cond.methodLink "ReplacementWriterModel$Template" (144 : Nat) ({ cls := "ReplacementWriterModel$Template", name := "plain", desc := "(II)I" } : Jvm.MethodName)) ∈ zw := zw_of (List.mem_of_getElem? (i := 1325) (by decide +kernel)) (by decide +kernel)
theorem zw_1327 : (Jvm.Cond.instanceMethod ({ cls := "ReplacementWriterModel$Template", name := "plain", desc := "(II)I" } : Jvm.MethodName)) ∈ zw := zw_of (List.mem_of_getElem? (i := 1327) (by decide +kernel)) (by decide +kernel)
theorem zw_1328 : (Jvm.Cond.code ({ cls := "ReplacementWriterModel$Template", name := "plain", desc := "(II)I" } : Jvm.MethodName) prog_17_method_16_code (4 : Nat) (Option.some Jvm.ClassFile.FieldType.int)) ∈ zw := zw_of (List.mem_of_getElem? (i := 1328) (by decide +kernel)) (by decide +kernel)
theorem zw_1330 : (Jvm.Cond.methodLink "ReplacementWriterModel$Template" (163 : Nat) ({ cls := "ReplacementWriterModel$Source", name := "at", desc := "(II)I" } : Jvm.MethodName)) ∈ zw := zw_of (List.mem_of_getElem? (i := 1330) (by decide +kernel)) (by decide +kernel)
theorem zw_1333 : (Jvm.Cond.selects "ReplacementWriterModel$Holder" ({ cls := "ReplacementWriterModel$Source", name := "at", desc := "(II)I" } : Jvm.MethodName) ({ cls := "ReplacementWriterModel$Holder", name := "at", desc := "(II)I" } : Jvm.MethodName)) ∈ zw := zw_of (List.mem_of_getElem? (i := 1333) (by decide +kernel)) (by decide +kernel)
theorem zw_1335 : (Jvm.Cond.instanceMethod ({ cls := "ReplacementWriterModel$Holder", name := "at", desc := "(II)I" } : Jvm.MethodName)) ∈ zw := zw_of (List.mem_of_getElem? (i := 1335) (by decide +kernel)) (by decide +kernel)
theorem zw_1337 : (Jvm.Cond.code ({ cls := "ReplacementWriterModel$Holder", name := "at", desc := "(II)I" } : Jvm.MethodName) prog_14_method_4_code (3 : Nat) (Option.some Jvm.ClassFile.FieldType.int)) ∈ zw := zw_of (List.mem_of_getElem? (i := 1337) (by decide +kernel)) (by decide +kernel)
theorem zw_1338 : (Jvm.Cond.methodLink "ReplacementWriterModel$Template" (147 : Nat) ({ cls := "ReplacementWriterModel$Template", name := "braced", desc := "(IIII)I" } : Jvm.MethodName)) ∈ zw := zw_of (List.mem_of_getElem? (i := 1338) (by decide +kernel)) (by decide +kernel)
theorem zw_1340 : (Jvm.Cond.instanceMethod ({ cls := "ReplacementWriterModel$Template", name := "braced", desc := "(IIII)I" } : Jvm.MethodName)) ∈ zw := zw_of (List.mem_of_getElem? (i := 1340) (by decide +kernel)) (by decide +kernel)
theorem zw_1341 : (Jvm.Cond.code ({ cls := "ReplacementWriterModel$Template", name := "braced", desc := "(IIII)I" } : Jvm.MethodName) prog_17_method_17_code (12 : Nat) (Option.some Jvm.ClassFile.FieldType.int)) ∈ zw := zw_of (List.mem_of_getElem? (i := 1341) (by decide +kernel)) (by decide +kernel)
theorem zw_1344 : (Jvm.Cond.methodLink "ReplacementWriterModel$Template" (170 : Nat) ({ cls := "ReplacementWriterModel$Template", name := "close", desc := "(IIZ)I" } : Jvm.MethodName)) ∈ zw := zw_of (List.mem_of_getElem? (i := 1344) (by decide +kernel)) (by decide +kernel)
theorem zw_1346 : (Jvm.Cond.instanceMethod ({ cls := "ReplacementWriterModel$Template", name := "close", desc := "(IIZ)I" } : Jvm.MethodName)) ∈ zw := zw_of (List.mem_of_getElem? (i := 1346) (by decide +kernel)) (by decide +kernel)
theorem zw_1347 : (Jvm.Cond.code ({ cls := "ReplacementWriterModel$Template", name := "close", desc := "(IIZ)I" } : Jvm.MethodName) prog_17_method_18_code (7 : Nat) (Option.some Jvm.ClassFile.FieldType.int)) ∈ zw := zw_of (List.mem_of_getElem? (i := 1347) (by decide +kernel)) (by decide +kernel)
theorem zw_1348 : (Jvm.Cond.methodLink "ReplacementWriterModel$Template" (111 : Nat) ({ cls := "ReplacementWriterModel$Template", name := "slash", desc := "(I)I" } : Jvm.MethodName)) ∈ zw := zw_of (List.mem_of_getElem? (i := 1348) (by decide +kernel)) (by decide +kernel)
theorem zw_1350 : (Jvm.Cond.instanceMethod ({ cls := "ReplacementWriterModel$Template", name := "slash", desc := "(I)I" } : Jvm.MethodName)) ∈ zw := zw_of (List.mem_of_getElem? (i := 1350) (by decide +kernel)) (by decide +kernel)
theorem zw_1351 : (Jvm.Cond.code ({ cls := "ReplacementWriterModel$Template", name := "slash", desc := "(I)I" } : Jvm.MethodName) prog_17_method_19_code (6 : Nat) (Option.some Jvm.ClassFile.FieldType.int)) ∈ zw := zw_of (List.mem_of_getElem? (i := 1351) (by decide +kernel)) (by decide +kernel)
theorem zw_1353 : (Jvm.Cond.methodLink "ReplacementWriterModel$Template" (175 : Nat) ({ cls := "ReplacementWriterModel$Template", name := "character", desc := "(II)J" } : Jvm.MethodName)) ∈ zw := zw_of (List.mem_of_getElem? (i := 1353) (by decide +kernel)) (by decide +kernel)
theorem zw_1355 : (Jvm.Cond.instanceMethod ({ cls := "ReplacementWriterModel$Template", name := "character", desc := "(II)J" } : Jvm.MethodName)) ∈ zw := zw_of (List.mem_of_getElem? (i := 1355) (by decide +kernel)) (by decide +kernel)
theorem zw_1356 : (Jvm.Cond.code ({ cls := "ReplacementWriterModel$Template", name := "character", desc := "(II)J" } : Jvm.MethodName) prog_17_method_23_code (4 : Nat) (Option.some Jvm.ClassFile.FieldType.long)) ∈ zw := zw_of (List.mem_of_getElem? (i := 1356) (by decide +kernel)) (by decide +kernel)
theorem zw_1357 : (Jvm.Cond.constantLong "ReplacementWriterModel$Template" (196 : Nat) (7 : Int64)) ∈ zw := zw_of (List.mem_of_getElem? (i := 1357) (by decide +kernel)) (by decide +kernel)
theorem zw_1358 : (Jvm.Cond.constantLong "ReplacementWriterModel$Template" (198 : Nat) (27 : Int64)) ∈ zw := zw_of (List.mem_of_getElem? (i := 1358) (by decide +kernel)) (by decide +kernel)
theorem zw_1359 : (Jvm.Cond.constantLong "ReplacementWriterModel$Template" (200 : Nat) (12 : Int64)) ∈ zw := zw_of (List.mem_of_getElem? (i := 1359) (by decide +kernel)) (by decide +kernel)
theorem zw_1360 : (Jvm.Cond.constantLong "ReplacementWriterModel$Template" (202 : Nat) (10 : Int64)) ∈ zw := zw_of (List.mem_of_getElem? (i := 1360) (by decide +kernel)) (by decide +kernel)
theorem zw_1361 : (Jvm.Cond.constantLong "ReplacementWriterModel$Template" (204 : Nat) (13 : Int64)) ∈ zw := zw_of (List.mem_of_getElem? (i := 1361) (by decide +kernel)) (by decide +kernel)
theorem zw_1362 : (Jvm.Cond.constantLong "ReplacementWriterModel$Template" (206 : Nat) (9 : Int64)) ∈ zw := zw_of (List.mem_of_getElem? (i := 1362) (by decide +kernel)) (by decide +kernel)
theorem zw_1363 : (Jvm.Cond.constantLong "ReplacementWriterModel$Template" (187 : Nat) (-1 : Int64)) ∈ zw := zw_of (List.mem_of_getElem? (i := 1363) (by decide +kernel)) (by decide +kernel)
theorem zw_1364 : (Jvm.Cond.methodLink "ReplacementWriterModel$Template" (192 : Nat) ({ cls := "ReplacementWriterModel$Template", name := "digits", desc := "(III)J" } : Jvm.MethodName)) ∈ zw := zw_of (List.mem_of_getElem? (i := 1364) (by decide +kernel)) (by decide +kernel)
theorem zw_1366 : (Jvm.Cond.instanceMethod ({ cls := "ReplacementWriterModel$Template", name := "digits", desc := "(III)J" } : Jvm.MethodName)) ∈ zw := zw_of (List.mem_of_getElem? (i := 1366) (by decide +kernel)) (by decide +kernel)
theorem zw_1367 : (Jvm.Cond.code ({ cls := "ReplacementWriterModel$Template", name := "digits", desc := "(III)J" } : Jvm.MethodName) prog_17_method_21_code (7 : Nat) (Option.some Jvm.ClassFile.FieldType.long)) ∈ zw := zw_of (List.mem_of_getElem? (i := 1367) (by decide +kernel)) (by decide +kernel)
theorem zw_1368 : (Jvm.Cond.methodLink "ReplacementWriterModel$Template" (184 : Nat) ({ cls := "ReplacementWriterModel$Template", name := "value", desc := "(I)I" } : Jvm.MethodName)) ∈ zw := zw_of (List.mem_of_getElem? (i := 1368) (by decide +kernel)) (by decide +kernel)
theorem zw_1369 : (Jvm.Cond.static ({ cls := "ReplacementWriterModel$Template", name := "value", desc := "(I)I" } : Jvm.MethodName)) ∈ zw := zw_of (List.mem_of_getElem? (i := 1369) (by decide +kernel)) (by decide +kernel)
theorem zw_1370 : (Jvm.Cond.code ({ cls := "ReplacementWriterModel$Template", name := "value", desc := "(I)I" } : Jvm.MethodName) prog_17_method_20_code (1 : Nat) (Option.some Jvm.ClassFile.FieldType.int)) ∈ zw := zw_of (List.mem_of_getElem? (i := 1370) (by decide +kernel)) (by decide +kernel)
theorem zw_1371 : (Jvm.Cond.constantLong "ReplacementWriterModel$Template" (189 : Nat) (1099511627776 : Int64)) ∈ zw := zw_of (List.mem_of_getElem? (i := 1371) (by decide +kernel)) (by decide +kernel)
theorem zw_1372 : (Jvm.Cond.methodLink "ReplacementWriterModel$Template" (208 : Nat) ({ cls := "ReplacementWriterModel$Template", name := "inBraces", desc := "(II)J" } : Jvm.MethodName)) ∈ zw := zw_of (List.mem_of_getElem? (i := 1372) (by decide +kernel)) (by decide +kernel)
theorem zw_1374 : (Jvm.Cond.instanceMethod ({ cls := "ReplacementWriterModel$Template", name := "inBraces", desc := "(II)J" } : Jvm.MethodName)) ∈ zw := zw_of (List.mem_of_getElem? (i := 1374) (by decide +kernel)) (by decide +kernel)
theorem zw_1375 : (Jvm.Cond.code ({ cls := "ReplacementWriterModel$Template", name := "inBraces", desc := "(II)J" } : Jvm.MethodName) prog_17_method_22_code (5 : Nat) (Option.some Jvm.ClassFile.FieldType.long)) ∈ zw := zw_of (List.mem_of_getElem? (i := 1375) (by decide +kernel)) (by decide +kernel)
theorem zw_1376 : (Jvm.Cond.constant "ReplacementWriterModel$Template" (191 : Nat) (100000 : Int32)) ∈ zw := zw_of (List.mem_of_getElem? (i := 1376) (by decide +kernel)) (by decide +kernel)
theorem zw_1377 : (Jvm.Cond.constant "ReplacementWriterModel$Template" (179 : Nat) (1114111 : Int32)) ∈ zw := zw_of (List.mem_of_getElem? (i := 1377) (by decide +kernel)) (by decide +kernel)
theorem zw_1378 : (Jvm.Cond.constantLong "ReplacementWriterModel$Template" (180 : Nat) (55296 : Int64)) ∈ zw := zw_of (List.mem_of_getElem? (i := 1378) (by decide +kernel)) (by decide +kernel)
theorem zw_1379 : (Jvm.Cond.constantLong "ReplacementWriterModel$Template" (182 : Nat) (57343 : Int64)) ∈ zw := zw_of (List.mem_of_getElem? (i := 1379) (by decide +kernel)) (by decide +kernel)
theorem zw_1380 : (Jvm.Cond.methodLink "ReplacementWriterLaw" (95 : Nat) ({ cls := "ReplacementWriterModel", name := "result", desc := "(I)I" } : Jvm.MethodName)) ∈ zw := zw_of (List.mem_of_getElem? (i := 1380) (by decide +kernel)) (by decide +kernel)
theorem zw_1381 : (Jvm.Cond.instanceMethod ({ cls := "ReplacementWriterModel", name := "result", desc := "(I)I" } : Jvm.MethodName)) ∈ zw := zw_of (List.mem_of_getElem? (i := 1381) (by decide +kernel)) (by decide +kernel)
theorem zw_1382 : (Jvm.Cond.selects "ReplacementWriterModel" ({ cls := "ReplacementWriterModel", name := "result", desc := "(I)I" } : Jvm.MethodName) ({ cls := "ReplacementWriterModel", name := "result", desc := "(I)I" } : Jvm.MethodName)) ∈ zw := zw_of (List.mem_of_getElem? (i := 1382) (by decide +kernel)) (by decide +kernel)
theorem zw_1383 : (Jvm.Cond.code ({ cls := "ReplacementWriterModel", name := "result", desc := "(I)I" } : Jvm.MethodName) prog_13_method_14_code (2 : Nat) (Option.some Jvm.ClassFile.FieldType.int)) ∈ zw := zw_of (List.mem_of_getElem? (i := 1383) (by decide +kernel)) (by decide +kernel)
theorem zw_1384 : (Jvm.Cond.methodLink "ReplacementWriterLaw" (98 : Nat) ({ cls := "ReplacementWriterModel", name := "fault", desc := "(I)I" } : Jvm.MethodName)) ∈ zw := zw_of (List.mem_of_getElem? (i := 1384) (by decide +kernel)) (by decide +kernel)
theorem zw_1385 : (Jvm.Cond.instanceMethod ({ cls := "ReplacementWriterModel", name := "fault", desc := "(I)I" } : Jvm.MethodName)) ∈ zw := zw_of (List.mem_of_getElem? (i := 1385) (by decide +kernel)) (by decide +kernel)
theorem zw_1386 : (Jvm.Cond.selects "ReplacementWriterModel" ({ cls := "ReplacementWriterModel", name := "fault", desc := "(I)I" } : Jvm.MethodName) ({ cls := "ReplacementWriterModel", name := "fault", desc := "(I)I" } : Jvm.MethodName)) ∈ zw := zw_of (List.mem_of_getElem? (i := 1386) (by decide +kernel)) (by decide +kernel)
theorem zw_1387 : (Jvm.Cond.code ({ cls := "ReplacementWriterModel", name := "fault", desc := "(I)I" } : Jvm.MethodName) prog_13_method_15_code (2 : Nat) (Option.some Jvm.ClassFile.FieldType.int)) ∈ zw := zw_of (List.mem_of_getElem? (i := 1387) (by decide +kernel)) (by decide +kernel)
theorem zw_1388 : (Jvm.Cond.methodLink "ReplacementWriterLaw" (102 : Nat) ({ cls := "ReplacementWriterModel", name := "count", desc := "(I)I" } : Jvm.MethodName)) ∈ zw := zw_of (List.mem_of_getElem? (i := 1388) (by decide +kernel)) (by decide +kernel)
theorem zw_1389 : (Jvm.Cond.instanceMethod ({ cls := "ReplacementWriterModel", name := "count", desc := "(I)I" } : Jvm.MethodName)) ∈ zw := zw_of (List.mem_of_getElem? (i := 1389) (by decide +kernel)) (by decide +kernel)
theorem zw_1390 : (Jvm.Cond.selects "ReplacementWriterModel" ({ cls := "ReplacementWriterModel", name := "count", desc := "(I)I" } : Jvm.MethodName) ({ cls := "ReplacementWriterModel", name := "count", desc := "(I)I" } : Jvm.MethodName)) ∈ zw := zw_of (List.mem_of_getElem? (i := 1390) (by decide +kernel)) (by decide +kernel)
theorem zw_1391 : (Jvm.Cond.code ({ cls := "ReplacementWriterModel", name := "count", desc := "(I)I" } : Jvm.MethodName) prog_13_method_16_code (2 : Nat) (Option.some Jvm.ClassFile.FieldType.int)) ∈ zw := zw_of (List.mem_of_getElem? (i := 1391) (by decide +kernel)) (by decide +kernel)
theorem zw_1392 : (Jvm.Cond.arrayClass Jvm.ClassFile.FieldType.long) ∈ zw := zw_of (List.mem_of_getElem? (i := 1392) (by decide +kernel)) (by decide +kernel)
theorem zw_1396 : (Jvm.Cond.selects "[Ljava/lang/Object;" ({ cls := "java/lang/Object", name := "getClass", desc := "()Ljava/lang/Class;" } : Jvm.MethodName) ({ cls := "java/lang/Object", name := "getClass", desc := "()Ljava/lang/Class;" } : Jvm.MethodName)) ∈ zw := zw_of (List.mem_of_getElem? (i := 1396) (by decide +kernel)) (by decide +kernel)
theorem zw_1414 : (Jvm.Cond.fieldLink "java/lang/String" (9 : Nat) "java/lang/String" "value" "[B") ∈ zw := zw_of (List.mem_of_getElem? (i := 1414) (by decide +kernel)) (by decide +kernel)
theorem zw_1415 : (Jvm.Cond.fieldLink "java/lang/String" (15 : Nat) "java/lang/String" "coder" "B") ∈ zw := zw_of (List.mem_of_getElem? (i := 1415) (by decide +kernel)) (by decide +kernel)
theorem zs_0 : Cond.selects "java/lang/Throwable" ⟨"java/lang/Throwable", "fillInStackTrace", "(I)Ljava/lang/Throwable;"⟩ ⟨"java/lang/Throwable", "fillInStackTrace", "(I)Ljava/lang/Throwable;"⟩ ∈ zw := zw_sel (List.mem_of_getElem? (i := 0) (by decide +kernel)) (by decide +kernel)
theorem zs_1 : Cond.selects "ReplacementWriter" ⟨"ReplacementWriter", "addFourBytes", "(I)V"⟩ ⟨"ReplacementWriter", "addFourBytes", "(I)V"⟩ ∈ zw := zw_sel (List.mem_of_getElem? (i := 1) (by decide +kernel)) (by decide +kernel)
theorem zs_2 : Cond.selects "ReplacementWriter$Encoding" ⟨"ReplacementWriter$Encoding", "isGood", "(LReplacementWriter$Row;I)Z"⟩ ⟨"ReplacementWriter$Encoding", "isGood", "(LReplacementWriter$Row;I)Z"⟩ ∈ zw := zw_sel (List.mem_of_getElem? (i := 2) (by decide +kernel)) (by decide +kernel)
theorem zs_3 : Cond.selects "ReplacementWriter" ⟨"ReplacementWriter", "takeText", "()I"⟩ ⟨"ReplacementWriter", "takeText", "()I"⟩ ∈ zw := zw_sel (List.mem_of_getElem? (i := 3) (by decide +kernel)) (by decide +kernel)
theorem zs_4 : Cond.selects "java/util/ArrayList" ⟨"java/util/ArrayList", "add", "(Ljava/lang/Object;[Ljava/lang/Object;I)V"⟩ ⟨"java/util/ArrayList", "add", "(Ljava/lang/Object;[Ljava/lang/Object;I)V"⟩ ∈ zw := zw_sel (List.mem_of_getElem? (i := 4) (by decide +kernel)) (by decide +kernel)
theorem zs_5 : Cond.selects "java/util/ArrayList" ⟨"java/util/ArrayList", "grow", "()[Ljava/lang/Object;"⟩ ⟨"java/util/ArrayList", "grow", "()[Ljava/lang/Object;"⟩ ∈ zw := zw_sel (List.mem_of_getElem? (i := 5) (by decide +kernel)) (by decide +kernel)
theorem zs_6 : Cond.selects "java/util/ArrayList" ⟨"java/util/ArrayList", "grow", "(I)[Ljava/lang/Object;"⟩ ⟨"java/util/ArrayList", "grow", "(I)[Ljava/lang/Object;"⟩ ∈ zw := zw_sel (List.mem_of_getElem? (i := 6) (by decide +kernel)) (by decide +kernel)
theorem zs_7 : Cond.selects "ReplacementWriter$Writing" ⟨"ReplacementWriter$Writing", "writePart", "(III)V"⟩ ⟨"ReplacementWriter$Writing", "writePart", "(III)V"⟩ ∈ zw := zw_sel (List.mem_of_getElem? (i := 7) (by decide +kernel)) (by decide +kernel)
theorem zs_8 : Cond.selects "ReplacementWriter$Writing" ⟨"ReplacementWriter$Writing", "writeDollar", "(III)I"⟩ ⟨"ReplacementWriter$Writing", "writeDollar", "(III)I"⟩ ∈ zw := zw_sel (List.mem_of_getElem? (i := 8) (by decide +kernel)) (by decide +kernel)
theorem zs_9 : Cond.selects "ReplacementWriter$Writing" ⟨"ReplacementWriter$Writing", "peek", "(II)I"⟩ ⟨"ReplacementWriter$Writing", "peek", "(II)I"⟩ ∈ zw := zw_sel (List.mem_of_getElem? (i := 9) (by decide +kernel)) (by decide +kernel)
theorem zs_10 : Cond.selects "ReplacementWriter$Writing" ⟨"ReplacementWriter$Writing", "writeMark", "(IIZ)I"⟩ ⟨"ReplacementWriter$Writing", "writeMark", "(IIZ)I"⟩ ∈ zw := zw_sel (List.mem_of_getElem? (i := 10) (by decide +kernel)) (by decide +kernel)
theorem zs_11 : Cond.selects "ReplacementWriter$Writing" ⟨"ReplacementWriter$Writing", "referenceEnd", "(II)I"⟩ ⟨"ReplacementWriter$Writing", "referenceEnd", "(II)I"⟩ ∈ zw := zw_sel (List.mem_of_getElem? (i := 11) (by decide +kernel)) (by decide +kernel)
theorem zs_12 : Cond.selects "ReplacementWriter$Writing" ⟨"ReplacementWriter$Writing", "writeGroup", "(IIII)I"⟩ ⟨"ReplacementWriter$Writing", "writeGroup", "(IIII)I"⟩ ∈ zw := zw_sel (List.mem_of_getElem? (i := 12) (by decide +kernel)) (by decide +kernel)
theorem zs_13 : Cond.selects "ReplacementWriter$Writing" ⟨"ReplacementWriter$Writing", "groupFor", "(II)I"⟩ ⟨"ReplacementWriter$Writing", "groupFor", "(II)I"⟩ ∈ zw := zw_sel (List.mem_of_getElem? (i := 13) (by decide +kernel)) (by decide +kernel)
theorem zs_14 : Cond.selects "ReplacementWriter$Writing" ⟨"ReplacementWriter$Writing", "writeChoice", "(IIIII)I"⟩ ⟨"ReplacementWriter$Writing", "writeChoice", "(IIIII)I"⟩ ∈ zw := zw_sel (List.mem_of_getElem? (i := 14) (by decide +kernel)) (by decide +kernel)
theorem zs_15 : Cond.selects "ReplacementWriter$Writing" ⟨"ReplacementWriter$Writing", "partEnd", "(IIZ)I"⟩ ⟨"ReplacementWriter$Writing", "partEnd", "(IIZ)I"⟩ ∈ zw := zw_sel (List.mem_of_getElem? (i := 15) (by decide +kernel)) (by decide +kernel)
theorem zs_16 : Cond.selects "ReplacementWriter$Writing" ⟨"ReplacementWriter$Writing", "writeBackslash", "(II)I"⟩ ⟨"ReplacementWriter$Writing", "writeBackslash", "(II)I"⟩ ∈ zw := zw_sel (List.mem_of_getElem? (i := 16) (by decide +kernel)) (by decide +kernel)
theorem zs_17 : Cond.selects "ReplacementWriter$Writing" ⟨"ReplacementWriter$Writing", "writeQuoted", "(II)I"⟩ ⟨"ReplacementWriter$Writing", "writeQuoted", "(II)I"⟩ ∈ zw := zw_sel (List.mem_of_getElem? (i := 17) (by decide +kernel)) (by decide +kernel)
theorem zs_18 : Cond.selects "ReplacementWriter$Writing" ⟨"ReplacementWriter$Writing", "writeCharacter", "(I)I"⟩ ⟨"ReplacementWriter$Writing", "writeCharacter", "(I)I"⟩ ∈ zw := zw_sel (List.mem_of_getElem? (i := 18) (by decide +kernel)) (by decide +kernel)
theorem zs_19 : Cond.selects "ReplacementWriter$Escape" ⟨"ReplacementWriter$Escape", "found", "(II)Z"⟩ ⟨"ReplacementWriter$Escape", "found", "(II)Z"⟩ ∈ zw := zw_sel (List.mem_of_getElem? (i := 19) (by decide +kernel)) (by decide +kernel)
theorem zs_20 : Cond.selects "ReplacementWriter$Escape" ⟨"ReplacementWriter$Escape", "readControl", "(II)Z"⟩ ⟨"ReplacementWriter$Escape", "readControl", "(II)Z"⟩ ∈ zw := zw_sel (List.mem_of_getElem? (i := 20) (by decide +kernel)) (by decide +kernel)
theorem zs_21 : Cond.selects "ReplacementWriter$Escape" ⟨"ReplacementWriter$Escape", "readBare", "(III)Z"⟩ ⟨"ReplacementWriter$Escape", "readBare", "(III)Z"⟩ ∈ zw := zw_sel (List.mem_of_getElem? (i := 21) (by decide +kernel)) (by decide +kernel)
theorem zs_22 : Cond.selects "ReplacementWriter$Escape" ⟨"ReplacementWriter$Escape", "digitsEnd", "(III)I"⟩ ⟨"ReplacementWriter$Escape", "digitsEnd", "(III)I"⟩ ∈ zw := zw_sel (List.mem_of_getElem? (i := 22) (by decide +kernel)) (by decide +kernel)
theorem zs_23 : Cond.selects "ReplacementWriter$Escape" ⟨"ReplacementWriter$Escape", "valueOf", "(III)J"⟩ ⟨"ReplacementWriter$Escape", "valueOf", "(III)J"⟩ ∈ zw := zw_sel (List.mem_of_getElem? (i := 23) (by decide +kernel)) (by decide +kernel)
theorem zs_24 : Cond.selects "ReplacementWriter$Escape" ⟨"ReplacementWriter$Escape", "readBraced", "(III)Z"⟩ ⟨"ReplacementWriter$Escape", "readBraced", "(III)Z"⟩ ∈ zw := zw_sel (List.mem_of_getElem? (i := 24) (by decide +kernel)) (by decide +kernel)
theorem zs_25 : Cond.selects "ReplacementWriterModel$Table" ⟨"ReplacementWriterModel$Table", "table0", "()V"⟩ ⟨"ReplacementWriterModel$Table", "table0", "()V"⟩ ∈ zw := zw_sel (List.mem_of_getElem? (i := 25) (by decide +kernel)) (by decide +kernel)
theorem zs_26 : Cond.selects "ReplacementWriterModel$Table" ⟨"ReplacementWriterModel$Table", "kinds", "(III)V"⟩ ⟨"ReplacementWriterModel$Table", "kinds", "(III)V"⟩ ∈ zw := zw_sel (List.mem_of_getElem? (i := 26) (by decide +kernel)) (by decide +kernel)
theorem zs_27 : Cond.selects "ReplacementWriterModel$Table" ⟨"ReplacementWriterModel$Table", "table1", "()V"⟩ ⟨"ReplacementWriterModel$Table", "table1", "()V"⟩ ∈ zw := zw_sel (List.mem_of_getElem? (i := 27) (by decide +kernel)) (by decide +kernel)
theorem zs_28 : Cond.selects "ReplacementWriterModel$Table" ⟨"ReplacementWriterModel$Table", "table2", "()V"⟩ ⟨"ReplacementWriterModel$Table", "table2", "()V"⟩ ∈ zw := zw_sel (List.mem_of_getElem? (i := 28) (by decide +kernel)) (by decide +kernel)
theorem zs_29 : Cond.selects "ReplacementWriterModel$Table" ⟨"ReplacementWriterModel$Table", "table3", "()V"⟩ ⟨"ReplacementWriterModel$Table", "table3", "()V"⟩ ∈ zw := zw_sel (List.mem_of_getElem? (i := 29) (by decide +kernel)) (by decide +kernel)
theorem zs_30 : Cond.selects "ReplacementWriterModel" ⟨"ReplacementWriterModel", "refuse", "(IZ)Z"⟩ ⟨"ReplacementWriterModel", "refuse", "(IZ)Z"⟩ ∈ zw := zw_sel (List.mem_of_getElem? (i := 30) (by decide +kernel)) (by decide +kernel)
theorem zs_31 : Cond.selects "ReplacementWriterModel" ⟨"ReplacementWriterModel", "characters", "()I"⟩ ⟨"ReplacementWriterModel", "characters", "()I"⟩ ∈ zw := zw_sel (List.mem_of_getElem? (i := 31) (by decide +kernel)) (by decide +kernel)
theorem zs_32 : Cond.selects "ReplacementWriterModel" ⟨"ReplacementWriterModel", "taken", "()[I"⟩ ⟨"ReplacementWriterModel", "taken", "()[I"⟩ ∈ zw := zw_sel (List.mem_of_getElem? (i := 32) (by decide +kernel)) (by decide +kernel)
theorem zs_33 : Cond.selects "ReplacementWriterModel$Template" ⟨"ReplacementWriterModel$Template", "bytes", "(I)Z"⟩ ⟨"ReplacementWriterModel$Template", "bytes", "(I)Z"⟩ ∈ zw := zw_sel (List.mem_of_getElem? (i := 33) (by decide +kernel)) (by decide +kernel)
theorem zs_34 : Cond.selects "ReplacementWriterModel$Template" ⟨"ReplacementWriterModel$Template", "part", "(III)I"⟩ ⟨"ReplacementWriterModel$Template", "part", "(III)I"⟩ ∈ zw := zw_sel (List.mem_of_getElem? (i := 34) (by decide +kernel)) (by decide +kernel)
theorem zs_35 : Cond.selects "ReplacementWriterModel$Template" ⟨"ReplacementWriterModel$Template", "dollar", "(II)I"⟩ ⟨"ReplacementWriterModel$Template", "dollar", "(II)I"⟩ ∈ zw := zw_sel (List.mem_of_getElem? (i := 35) (by decide +kernel)) (by decide +kernel)
theorem zs_36 : Cond.selects "ReplacementWriterModel$Template" ⟨"ReplacementWriterModel$Template", "see", "(II)I"⟩ ⟨"ReplacementWriterModel$Template", "see", "(II)I"⟩ ∈ zw := zw_sel (List.mem_of_getElem? (i := 36) (by decide +kernel)) (by decide +kernel)
theorem zs_37 : Cond.selects "ReplacementWriterModel$Template" ⟨"ReplacementWriterModel$Template", "cased", "(II)I"⟩ ⟨"ReplacementWriterModel$Template", "cased", "(II)I"⟩ ∈ zw := zw_sel (List.mem_of_getElem? (i := 37) (by decide +kernel)) (by decide +kernel)
theorem zs_38 : Cond.selects "ReplacementWriterModel$Table" ⟨"ReplacementWriterModel$Table", "first", "(I)I"⟩ ⟨"ReplacementWriterModel$Table", "first", "(I)I"⟩ ∈ zw := zw_sel (List.mem_of_getElem? (i := 38) (by decide +kernel)) (by decide +kernel)
theorem zs_39 : Cond.selects "ReplacementWriterModel$Table" ⟨"ReplacementWriterModel$Table", "third", "(I)I"⟩ ⟨"ReplacementWriterModel$Table", "third", "(I)I"⟩ ∈ zw := zw_sel (List.mem_of_getElem? (i := 39) (by decide +kernel)) (by decide +kernel)
theorem zs_40 : Cond.selects "ReplacementWriterModel$Table" ⟨"ReplacementWriterModel$Table", "pair", "(I)I"⟩ ⟨"ReplacementWriterModel$Table", "pair", "(I)I"⟩ ∈ zw := zw_sel (List.mem_of_getElem? (i := 40) (by decide +kernel)) (by decide +kernel)
theorem zs_41 : Cond.selects "ReplacementWriterModel$Table" ⟨"ReplacementWriterModel$Table", "inAny", "(III)Z"⟩ ⟨"ReplacementWriterModel$Table", "inAny", "(III)Z"⟩ ∈ zw := zw_sel (List.mem_of_getElem? (i := 41) (by decide +kernel)) (by decide +kernel)
theorem zs_42 : Cond.selects "ReplacementWriterModel$Table" ⟨"ReplacementWriterModel$Table", "withMate", "(I)V"⟩ ⟨"ReplacementWriterModel$Table", "withMate", "(I)V"⟩ ∈ zw := zw_sel (List.mem_of_getElem? (i := 42) (by decide +kernel)) (by decide +kernel)
theorem zs_43 : Cond.selects "ReplacementWriterModel$Template" ⟨"ReplacementWriterModel$Template", "marked", "(IIZ)I"⟩ ⟨"ReplacementWriterModel$Template", "marked", "(IIZ)I"⟩ ∈ zw := zw_sel (List.mem_of_getElem? (i := 43) (by decide +kernel)) (by decide +kernel)
theorem zs_44 : Cond.selects "ReplacementWriterModel$Template" ⟨"ReplacementWriterModel$Template", "comes", "(IILjava/lang/String;)Z"⟩ ⟨"ReplacementWriterModel$Template", "comes", "(IILjava/lang/String;)Z"⟩ ∈ zw := zw_sel (List.mem_of_getElem? (i := 44) (by decide +kernel)) (by decide +kernel)
theorem zs_45 : Cond.selects "ReplacementWriterModel$Template" ⟨"ReplacementWriterModel$Template", "fault", "(II)I"⟩ ⟨"ReplacementWriterModel$Template", "fault", "(II)I"⟩ ∈ zw := zw_sel (List.mem_of_getElem? (i := 45) (by decide +kernel)) (by decide +kernel)
theorem zs_46 : Cond.selects "ReplacementWriterModel$Template" ⟨"ReplacementWriterModel$Template", "plain", "(II)I"⟩ ⟨"ReplacementWriterModel$Template", "plain", "(II)I"⟩ ∈ zw := zw_sel (List.mem_of_getElem? (i := 46) (by decide +kernel)) (by decide +kernel)
theorem zs_47 : Cond.selects "ReplacementWriterModel$Template" ⟨"ReplacementWriterModel$Template", "braced", "(IIII)I"⟩ ⟨"ReplacementWriterModel$Template", "braced", "(IIII)I"⟩ ∈ zw := zw_sel (List.mem_of_getElem? (i := 47) (by decide +kernel)) (by decide +kernel)
theorem zs_48 : Cond.selects "ReplacementWriterModel$Template" ⟨"ReplacementWriterModel$Template", "close", "(IIZ)I"⟩ ⟨"ReplacementWriterModel$Template", "close", "(IIZ)I"⟩ ∈ zw := zw_sel (List.mem_of_getElem? (i := 48) (by decide +kernel)) (by decide +kernel)
theorem zs_49 : Cond.selects "ReplacementWriterModel$Template" ⟨"ReplacementWriterModel$Template", "slash", "(I)I"⟩ ⟨"ReplacementWriterModel$Template", "slash", "(I)I"⟩ ∈ zw := zw_sel (List.mem_of_getElem? (i := 49) (by decide +kernel)) (by decide +kernel)
theorem zs_50 : Cond.selects "ReplacementWriterModel$Template" ⟨"ReplacementWriterModel$Template", "character", "(II)J"⟩ ⟨"ReplacementWriterModel$Template", "character", "(II)J"⟩ ∈ zw := zw_sel (List.mem_of_getElem? (i := 50) (by decide +kernel)) (by decide +kernel)
theorem zs_51 : Cond.selects "ReplacementWriterModel$Template" ⟨"ReplacementWriterModel$Template", "digits", "(III)J"⟩ ⟨"ReplacementWriterModel$Template", "digits", "(III)J"⟩ ∈ zw := zw_sel (List.mem_of_getElem? (i := 51) (by decide +kernel)) (by decide +kernel)
theorem zs_52 : Cond.selects "ReplacementWriterModel$Template" ⟨"ReplacementWriterModel$Template", "inBraces", "(II)J"⟩ ⟨"ReplacementWriterModel$Template", "inBraces", "(II)J"⟩ ∈ zw := zw_sel (List.mem_of_getElem? (i := 52) (by decide +kernel)) (by decide +kernel)
end
section
/-! The classes whose objects the worlds hold, their fields. Laid by mkbase.py. -/
def F_RW : u_T := fun k => match k with
  | 0 => ("ReplacementWriter", "encoding", "LReplacementWriter$Encoding;", true)
  | 1 => ("ReplacementWriter", "text", "LReplacementWriter$Row;", true)
  | 2 => ("ReplacementWriter", "held", "LReplacementWriter$Groups;", true)
  | 3 => ("ReplacementWriter", "output", "LReplacementWriter$Output;", true)
  | 4 => ("ReplacementWriter", "writing", "LReplacementWriter$Writing;", true)
  | 5 => ("ReplacementWriter", "lastCode", "I", false)
  | _ => ("ReplacementWriter", "lastOffset", "I", false)
def t_RW : Nat → FieldType := fun k => match k with
  | 0 => .object "ReplacementWriter$Encoding"
  | 1 => .object "ReplacementWriter$Row"
  | 2 => .object "ReplacementWriter$Groups"
  | 3 => .object "ReplacementWriter$Output"
  | 4 => .object "ReplacementWriter$Writing"
  | 5 => .int
  | _ => .int
theorem n_RW : ∀ a, a < 7 → ∀ b, b < 7 → a ≠ b → (F_RW a).2.1 ≠ (F_RW b).2.1 := by decide +kernel
theorem t_RW_ok : ∀ k, k < 7 → parseFieldDescriptor (F_RW k).2.2.1 = some (t_RW k) := by decide +kernel
theorem i_RW : ∀ w ∈ u_ws "ReplacementWriter" F_RW 7, w ∈ zw := List.forall_mem_cons.mpr ⟨zw_236, List.forall_mem_cons.mpr ⟨zw_238, List.forall_mem_cons.mpr ⟨zw_240, List.forall_mem_cons.mpr ⟨zw_242, List.forall_mem_cons.mpr ⟨zw_244, List.forall_mem_cons.mpr ⟨zw_246, List.forall_mem_cons.mpr ⟨zw_248, fun _ h => absurd h List.not_mem_nil⟩⟩⟩⟩⟩⟩⟩
def F_Row : u_T := fun k => match k with
  | 0 => ("ReplacementWriter$Row", "most", "I", true)
  | 1 => ("ReplacementWriter$Row", "bytes", "[B", false)
  | _ => ("ReplacementWriter$Row", "length", "I", false)
def t_Row : Nat → FieldType := fun k => match k with
  | 0 => .int
  | 1 => .array .byte
  | _ => .int
theorem n_Row : ∀ a, a < 3 → ∀ b, b < 3 → a ≠ b → (F_Row a).2.1 ≠ (F_Row b).2.1 := by decide +kernel
theorem t_Row_ok : ∀ k, k < 3 → parseFieldDescriptor (F_Row k).2.2.1 = some (t_Row k) := by decide +kernel
theorem i_Row : ∀ w ∈ u_ws "ReplacementWriter$Row" F_Row 3, w ∈ zw := List.forall_mem_cons.mpr ⟨zw_57, List.forall_mem_cons.mpr ⟨zw_59, List.forall_mem_cons.mpr ⟨zw_61, fun _ h => absurd h List.not_mem_nil⟩⟩⟩
def F_Encoding : u_T := fun k => match k with
  | _ => ("ReplacementWriter$Encoding", "utf", "Z", true)
def t_Encoding : Nat → FieldType := fun k => match k with
  | _ => .boolean
theorem n_Encoding : ∀ a, a < 1 → ∀ b, b < 1 → a ≠ b → (F_Encoding a).2.1 ≠ (F_Encoding b).2.1 := by decide +kernel
theorem t_Encoding_ok : ∀ k, k < 1 → parseFieldDescriptor (F_Encoding k).2.2.1 = some (t_Encoding k) := by decide +kernel
theorem i_Encoding : ∀ w ∈ u_ws "ReplacementWriter$Encoding" F_Encoding 1, w ∈ zw := List.forall_mem_cons.mpr ⟨zw_128, fun _ h => absurd h List.not_mem_nil⟩
def F_Cases : u_T := fun k => match k with
  | _ => ("ReplacementWriter$Cases", "pairsEnd", "I", true)
def t_Cases : Nat → FieldType := fun k => match k with
  | _ => .int
theorem n_Cases : ∀ a, a < 1 → ∀ b, b < 1 → a ≠ b → (F_Cases a).2.1 ≠ (F_Cases b).2.1 := by decide +kernel
theorem t_Cases_ok : ∀ k, k < 1 → parseFieldDescriptor (F_Cases k).2.2.1 = some (t_Cases k) := by decide +kernel
theorem i_Cases : ∀ w ∈ u_ws "ReplacementWriter$Cases" F_Cases 1, w ∈ zw := List.forall_mem_cons.mpr ⟨zw_142, fun _ h => absurd h List.not_mem_nil⟩
def F_Name : u_T := fun k => match k with
  | 0 => ("ReplacementWriter$Name", "letters", "[B", true)
  | _ => ("ReplacementWriter$Name", "group", "I", true)
def t_Name : Nat → FieldType := fun k => match k with
  | 0 => .array .byte
  | _ => .int
theorem n_Name : ∀ a, a < 2 → ∀ b, b < 2 → a ≠ b → (F_Name a).2.1 ≠ (F_Name b).2.1 := by decide +kernel
theorem t_Name_ok : ∀ k, k < 2 → parseFieldDescriptor (F_Name k).2.2.1 = some (t_Name k) := by decide +kernel
theorem i_Name : ∀ w ∈ u_ws "ReplacementWriter$Name" F_Name 2, w ∈ zw := List.forall_mem_cons.mpr ⟨zw_567, List.forall_mem_cons.mpr ⟨zw_569, fun _ h => absurd h List.not_mem_nil⟩⟩
def F_Groups : u_T := fun k => match k with
  | 0 => ("ReplacementWriter$Groups", "texts", "[LReplacementWriter$Row;", true)
  | 1 => ("ReplacementWriter$Groups", "isSet", "[Z", true)
  | 2 => ("ReplacementWriter$Groups", "names", "Ljava/util/ArrayList;", true)
  | 3 => ("ReplacementWriter$Groups", "markText", "LReplacementWriter$Row;", true)
  | 4 => ("ReplacementWriter$Groups", "greatest", "I", false)
  | _ => ("ReplacementWriter$Groups", "namesGiven", "I", false)
def t_Groups : Nat → FieldType := fun k => match k with
  | 0 => .array (.object "ReplacementWriter$Row")
  | 1 => .array .boolean
  | 2 => .object "java/util/ArrayList"
  | 3 => .object "ReplacementWriter$Row"
  | 4 => .int
  | _ => .int
theorem n_Groups : ∀ a, a < 6 → ∀ b, b < 6 → a ≠ b → (F_Groups a).2.1 ≠ (F_Groups b).2.1 := by decide +kernel
theorem t_Groups_ok : ∀ k, k < 6 → parseFieldDescriptor (F_Groups k).2.2.1 = some (t_Groups k) := by decide +kernel
theorem i_Groups : ∀ w ∈ u_ws "ReplacementWriter$Groups" F_Groups 6, w ∈ zw := List.forall_mem_cons.mpr ⟨zw_108, List.forall_mem_cons.mpr ⟨zw_110, List.forall_mem_cons.mpr ⟨zw_112, List.forall_mem_cons.mpr ⟨zw_114, List.forall_mem_cons.mpr ⟨zw_116, List.forall_mem_cons.mpr ⟨zw_118, fun _ h => absurd h List.not_mem_nil⟩⟩⟩⟩⟩⟩
def F_Output : u_T := fun k => match k with
  | 0 => ("ReplacementWriter$Output", "encoding", "LReplacementWriter$Encoding;", true)
  | 1 => ("ReplacementWriter$Output", "cases", "LReplacementWriter$Cases;", true)
  | 2 => ("ReplacementWriter$Output", "bytes", "LReplacementWriter$Row;", true)
  | 3 => ("ReplacementWriter$Output", "steadyTurn", "LReplacementWriter$Turn;", false)
  | 4 => ("ReplacementWriter$Output", "nextTurn", "LReplacementWriter$Turn;", false)
  | _ => ("ReplacementWriter$Output", "isFull", "Z", false)
def t_Output : Nat → FieldType := fun k => match k with
  | 0 => .object "ReplacementWriter$Encoding"
  | 1 => .object "ReplacementWriter$Cases"
  | 2 => .object "ReplacementWriter$Row"
  | 3 => .object "ReplacementWriter$Turn"
  | 4 => .object "ReplacementWriter$Turn"
  | _ => .boolean
theorem n_Output : ∀ a, a < 6 → ∀ b, b < 6 → a ≠ b → (F_Output a).2.1 ≠ (F_Output b).2.1 := by decide +kernel
theorem t_Output_ok : ∀ k, k < 6 → parseFieldDescriptor (F_Output k).2.2.1 = some (t_Output k) := by decide +kernel
theorem i_Output : ∀ w ∈ u_ws "ReplacementWriter$Output" F_Output 6, w ∈ zw := List.forall_mem_cons.mpr ⟨zw_160, List.forall_mem_cons.mpr ⟨zw_162, List.forall_mem_cons.mpr ⟨zw_164, List.forall_mem_cons.mpr ⟨zw_166, List.forall_mem_cons.mpr ⟨zw_168, List.forall_mem_cons.mpr ⟨zw_170, fun _ h => absurd h List.not_mem_nil⟩⟩⟩⟩⟩⟩
def F_Escape : u_T := fun k => match k with
  | 0 => ("ReplacementWriter$Escape", "text", "LReplacementWriter$Row;", true)
  | 1 => ("ReplacementWriter$Escape", "encoding", "LReplacementWriter$Encoding;", true)
  | 2 => ("ReplacementWriter$Escape", "character", "I", false)
  | _ => ("ReplacementWriter$Escape", "next", "I", false)
def t_Escape : Nat → FieldType := fun k => match k with
  | 0 => .object "ReplacementWriter$Row"
  | 1 => .object "ReplacementWriter$Encoding"
  | 2 => .int
  | _ => .int
theorem n_Escape : ∀ a, a < 4 → ∀ b, b < 4 → a ≠ b → (F_Escape a).2.1 ≠ (F_Escape b).2.1 := by decide +kernel
theorem t_Escape_ok : ∀ k, k < 4 → parseFieldDescriptor (F_Escape k).2.2.1 = some (t_Escape k) := by decide +kernel
theorem i_Escape : ∀ w ∈ u_ws "ReplacementWriter$Escape" F_Escape 4, w ∈ zw := List.forall_mem_cons.mpr ⟨zw_189, List.forall_mem_cons.mpr ⟨zw_191, List.forall_mem_cons.mpr ⟨zw_193, List.forall_mem_cons.mpr ⟨zw_195, fun _ h => absurd h List.not_mem_nil⟩⟩⟩⟩
def F_Writing : u_T := fun k => match k with
  | 0 => ("ReplacementWriter$Writing", "text", "LReplacementWriter$Row;", true)
  | 1 => ("ReplacementWriter$Writing", "held", "LReplacementWriter$Groups;", true)
  | 2 => ("ReplacementWriter$Writing", "output", "LReplacementWriter$Output;", true)
  | 3 => ("ReplacementWriter$Writing", "encoding", "LReplacementWriter$Encoding;", true)
  | 4 => ("ReplacementWriter$Writing", "escape", "LReplacementWriter$Escape;", true)
  | 5 => ("ReplacementWriter$Writing", "rich", "Z", false)
  | 6 => ("ReplacementWriter$Writing", "unsetIsEmpty", "Z", false)
  | 7 => ("ReplacementWriter$Writing", "unknownIsUnset", "Z", false)
  | 8 => ("ReplacementWriter$Writing", "code", "I", false)
  | _ => ("ReplacementWriter$Writing", "offset", "I", false)
def t_Writing : Nat → FieldType := fun k => match k with
  | 0 => .object "ReplacementWriter$Row"
  | 1 => .object "ReplacementWriter$Groups"
  | 2 => .object "ReplacementWriter$Output"
  | 3 => .object "ReplacementWriter$Encoding"
  | 4 => .object "ReplacementWriter$Escape"
  | 5 => .boolean
  | 6 => .boolean
  | 7 => .boolean
  | 8 => .int
  | _ => .int
theorem n_Writing : ∀ a, a < 10 → ∀ b, b < 10 → a ≠ b → (F_Writing a).2.1 ≠ (F_Writing b).2.1 := by decide +kernel
theorem t_Writing_ok : ∀ k, k < 10 → parseFieldDescriptor (F_Writing k).2.2.1 = some (t_Writing k) := by decide +kernel
theorem i_Writing : ∀ w ∈ u_ws "ReplacementWriter$Writing" F_Writing 10, w ∈ zw := List.forall_mem_cons.mpr ⟨zw_208, List.forall_mem_cons.mpr ⟨zw_210, List.forall_mem_cons.mpr ⟨zw_212, List.forall_mem_cons.mpr ⟨zw_214, List.forall_mem_cons.mpr ⟨zw_216, List.forall_mem_cons.mpr ⟨zw_218, List.forall_mem_cons.mpr ⟨zw_220, List.forall_mem_cons.mpr ⟨zw_222, List.forall_mem_cons.mpr ⟨zw_224, List.forall_mem_cons.mpr ⟨zw_226, fun _ h => absurd h List.not_mem_nil⟩⟩⟩⟩⟩⟩⟩⟩⟩⟩
def F_ArrayList : u_T := fun k => match k with
  | 0 => ("java/util/ArrayList", "elementData", "[Ljava/lang/Object;", false)
  | 1 => ("java/util/ArrayList", "size", "I", false)
  | _ => ("java/util/AbstractList", "modCount", "I", false)
def t_ArrayList : Nat → FieldType := fun k => match k with
  | 0 => .array (.object "java/lang/Object")
  | 1 => .int
  | _ => .int
theorem n_ArrayList : ∀ a, a < 3 → ∀ b, b < 3 → a ≠ b → (F_ArrayList a).2.1 ≠ (F_ArrayList b).2.1 := by decide +kernel
theorem t_ArrayList_ok : ∀ k, k < 3 → parseFieldDescriptor (F_ArrayList k).2.2.1 = some (t_ArrayList k) := by decide +kernel
theorem i_ArrayList : ∀ w ∈ u_ws "java/util/ArrayList" F_ArrayList 3, w ∈ zw := List.forall_mem_cons.mpr ⟨zw_92, List.forall_mem_cons.mpr ⟨zw_94, List.forall_mem_cons.mpr ⟨zw_96, fun _ h => absurd h List.not_mem_nil⟩⟩⟩
def F_Mod : u_T := fun k => match k with
  | 0 => ("ReplacementWriterModel", "table", "LReplacementWriterModel$Table;", true)
  | 1 => ("ReplacementWriterModel", "template", "LReplacementWriterModel$Template;", true)
  | 2 => ("ReplacementWriterModel", "holder", "LReplacementWriterModel$Holder;", true)
  | 3 => ("ReplacementWriterModel", "text", "[B", true)
  | 4 => ("ReplacementWriterModel", "size", "I", false)
  | 5 => ("ReplacementWriterModel", "thrown", "I", false)
  | 6 => ("ReplacementWriterModel", "code", "I", false)
  | 7 => ("ReplacementWriterModel", "result", "Z", false)
  | 8 => ("ReplacementWriterModel", "ch", "[I", true)
  | 9 => ("ReplacementWriterModel", "place", "[I", true)
  | 10 => ("ReplacementWriterModel", "n", "I", false)
  | _ => ("ReplacementWriterModel", "badAt", "I", false)
def t_Mod : Nat → FieldType := fun k => match k with
  | 0 => .object "ReplacementWriterModel$Table"
  | 1 => .object "ReplacementWriterModel$Template"
  | 2 => .object "ReplacementWriterModel$Holder"
  | 3 => .array .byte
  | 4 => .int
  | 5 => .int
  | 6 => .int
  | 7 => .boolean
  | 8 => .array .int
  | 9 => .array .int
  | 10 => .int
  | _ => .int
theorem n_Mod : ∀ a, a < 12 → ∀ b, b < 12 → a ≠ b → (F_Mod a).2.1 ≠ (F_Mod b).2.1 := by decide +kernel
theorem t_Mod_ok : ∀ k, k < 12 → parseFieldDescriptor (F_Mod k).2.2.1 = some (t_Mod k) := by decide +kernel
theorem i_Mod : ∀ w ∈ u_ws "ReplacementWriterModel" F_Mod 12, w ∈ zw := List.forall_mem_cons.mpr ⟨zw_1019, List.forall_mem_cons.mpr ⟨zw_1021, List.forall_mem_cons.mpr ⟨zw_1023, List.forall_mem_cons.mpr ⟨zw_1025, List.forall_mem_cons.mpr ⟨zw_1027, List.forall_mem_cons.mpr ⟨zw_1029, List.forall_mem_cons.mpr ⟨zw_1031, List.forall_mem_cons.mpr ⟨zw_1033, List.forall_mem_cons.mpr ⟨zw_1035, List.forall_mem_cons.mpr ⟨zw_1037, List.forall_mem_cons.mpr ⟨zw_1039, List.forall_mem_cons.mpr ⟨zw_1041, fun _ h => absurd h List.not_mem_nil⟩⟩⟩⟩⟩⟩⟩⟩⟩⟩⟩⟩
def F_Table : u_T := fun k => match k with
  | 0 => ("ReplacementWriterModel$Table", "kind", "[B", true)
  | 1 => ("ReplacementWriterModel$Table", "utf", "Z", false)
  | 2 => ("ReplacementWriterModel$Table", "ucp", "Z", false)
  | 3 => ("ReplacementWriterModel$Table", "last", "I", false)
  | 4 => ("ReplacementWriterModel$Table", "mate", "[I", true)
  | _ => ("ReplacementWriterModel$Table", "mates", "I", false)
def t_Table : Nat → FieldType := fun k => match k with
  | 0 => .array .byte
  | 1 => .boolean
  | 2 => .boolean
  | 3 => .int
  | 4 => .array .int
  | _ => .int
theorem n_Table : ∀ a, a < 6 → ∀ b, b < 6 → a ≠ b → (F_Table a).2.1 ≠ (F_Table b).2.1 := by decide +kernel
theorem t_Table_ok : ∀ k, k < 6 → parseFieldDescriptor (F_Table k).2.2.1 = some (t_Table k) := by decide +kernel
theorem i_Table : ∀ w ∈ u_ws "ReplacementWriterModel$Table" F_Table 6, w ∈ zw := List.forall_mem_cons.mpr ⟨zw_904, List.forall_mem_cons.mpr ⟨zw_906, List.forall_mem_cons.mpr ⟨zw_908, List.forall_mem_cons.mpr ⟨zw_910, List.forall_mem_cons.mpr ⟨zw_912, List.forall_mem_cons.mpr ⟨zw_914, fun _ h => absurd h List.not_mem_nil⟩⟩⟩⟩⟩⟩
def F_Template : u_T := fun k => match k with
  | 0 => ("ReplacementWriterModel$Template", "table", "LReplacementWriterModel$Table;", true)
  | 1 => ("ReplacementWriterModel$Template", "source", "LReplacementWriterModel$Source;", false)
  | 2 => ("ReplacementWriterModel$Template", "rich", "Z", false)
  | 3 => ("ReplacementWriterModel$Template", "empty", "Z", false)
  | 4 => ("ReplacementWriterModel$Template", "unknown", "Z", false)
  | 5 => ("ReplacementWriterModel$Template", "t", "[I", false)
  | 6 => ("ReplacementWriterModel$Template", "n", "I", false)
  | 7 => ("ReplacementWriterModel$Template", "out", "[B", false)
  | 8 => ("ReplacementWriterModel$Template", "size", "I", false)
  | 9 => ("ReplacementWriterModel$Template", "mode", "I", false)
  | 10 => ("ReplacementWriterModel$Template", "once", "I", false)
  | 11 => ("ReplacementWriterModel$Template", "faultAt", "I", false)
  | _ => ("ReplacementWriterModel$Template", "i", "I", false)
def t_Template : Nat → FieldType := fun k => match k with
  | 0 => .object "ReplacementWriterModel$Table"
  | 1 => .object "ReplacementWriterModel$Source"
  | 2 => .boolean
  | 3 => .boolean
  | 4 => .boolean
  | 5 => .array .int
  | 6 => .int
  | 7 => .array .byte
  | 8 => .int
  | 9 => .int
  | 10 => .int
  | 11 => .int
  | _ => .int
theorem n_Template : ∀ a, a < 13 → ∀ b, b < 13 → a ≠ b → (F_Template a).2.1 ≠ (F_Template b).2.1 := by decide +kernel
theorem t_Template_ok : ∀ k, k < 13 → parseFieldDescriptor (F_Template k).2.2.1 = some (t_Template k) := by decide +kernel
theorem i_Template : ∀ w ∈ u_ws "ReplacementWriterModel$Template" F_Template 13, w ∈ zw := List.forall_mem_cons.mpr ⟨zw_942, List.forall_mem_cons.mpr ⟨zw_944, List.forall_mem_cons.mpr ⟨zw_946, List.forall_mem_cons.mpr ⟨zw_948, List.forall_mem_cons.mpr ⟨zw_950, List.forall_mem_cons.mpr ⟨zw_952, List.forall_mem_cons.mpr ⟨zw_954, List.forall_mem_cons.mpr ⟨zw_956, List.forall_mem_cons.mpr ⟨zw_958, List.forall_mem_cons.mpr ⟨zw_960, List.forall_mem_cons.mpr ⟨zw_962, List.forall_mem_cons.mpr ⟨zw_964, List.forall_mem_cons.mpr ⟨zw_966, fun _ h => absurd h List.not_mem_nil⟩⟩⟩⟩⟩⟩⟩⟩⟩⟩⟩⟩⟩
def F_Holder : u_T := fun k => match k with
  | 0 => ("ReplacementWriterModel$Holder", "groups", "I", false)
  | 1 => ("ReplacementWriterModel$Holder", "held", "[[I", true)
  | 2 => ("ReplacementWriterModel$Holder", "names", "Ljava/util/ArrayList;", true)
  | 3 => ("ReplacementWriterModel$Holder", "numbers", "Ljava/util/ArrayList;", true)
  | _ => ("ReplacementWriterModel$Holder", "mark", "[I", false)
def t_Holder : Nat → FieldType := fun k => match k with
  | 0 => .int
  | 1 => .array (.array .int)
  | 2 => .object "java/util/ArrayList"
  | 3 => .object "java/util/ArrayList"
  | _ => .array .int
theorem n_Holder : ∀ a, a < 5 → ∀ b, b < 5 → a ≠ b → (F_Holder a).2.1 ≠ (F_Holder b).2.1 := by decide +kernel
theorem t_Holder_ok : ∀ k, k < 5 → parseFieldDescriptor (F_Holder k).2.2.1 = some (t_Holder k) := by decide +kernel
theorem i_Holder : ∀ w ∈ u_ws "ReplacementWriterModel$Holder" F_Holder 5, w ∈ zw := List.forall_mem_cons.mpr ⟨zw_989, List.forall_mem_cons.mpr ⟨zw_991, List.forall_mem_cons.mpr ⟨zw_993, List.forall_mem_cons.mpr ⟨zw_995, List.forall_mem_cons.mpr ⟨zw_997, fun _ h => absurd h List.not_mem_nil⟩⟩⟩⟩⟩
abbrev zcl : List vw_C := [("ReplacementWriter", F_RW, 7), ("ReplacementWriter$Row", F_Row, 3), ("ReplacementWriter$Encoding", F_Encoding, 1), ("ReplacementWriter$Cases", F_Cases, 1), ("ReplacementWriter$Name", F_Name, 2), ("ReplacementWriter$Groups", F_Groups, 6), ("ReplacementWriter$Output", F_Output, 6), ("ReplacementWriter$Escape", F_Escape, 4), ("ReplacementWriter$Writing", F_Writing, 10), ("java/util/ArrayList", F_ArrayList, 3), ("ReplacementWriterModel", F_Mod, 12), ("ReplacementWriterModel$Table", F_Table, 6), ("ReplacementWriterModel$Template", F_Template, 13), ("ReplacementWriterModel$Holder", F_Holder, 5)]
end
section
/-! Integers of the machine as whole numbers, and the kit's rows over them. -/
def iI (z : Int) : Int32 := Int32.ofInt z
abbrev r32 (z : Int) : Prop := -2147483648 ≤ z ∧ z < 2147483648
theorem iI_toInt {z : Int} (h : r32 z) : (iI z).toInt = z := Int32.toInt_ofInt_of_le (by have := h.1; omega) (by have := h.2; omega)
theorem iI_of (x : Int32) : x = iI x.toInt := (Int32.ofInt_toInt x).symm
theorem iI_r (x : Int32) : r32 x.toInt := ⟨by have := Int32.le_toInt x; omega, by have := Int32.toInt_lt x; omega⟩
theorem iI_ex (x : Int32) : ∃ z : Int, r32 z ∧ x = iI z := ⟨x.toInt, iI_r x, iI_of x⟩
theorem iI_nI (n : Nat) : nI n = iI (n : Int) := (Int32.ofInt_eq_ofNat).symm
theorem iI_add (a b : Int) : iI a + iI b = iI (a + b) := (Int32.ofInt_add a b).symm
theorem iI_sub (a b : Int) : iI a - iI b = iI (a - b) := (Int32.ofInt_sub a b).symm
theorem iI_mul (a b : Int) : iI a * iI b = iI (a * b) := (Int32.ofInt_mul a b).symm
theorem iI_neg (a : Int) : - iI a = iI (-a) := (Int32.ofInt_neg a).symm
theorem iI_0 : (0 : Int32) = iI 0 := rfl
theorem iI_lt {a b : Int} (ha : r32 a) (hb : r32 b) : iI a < iI b ↔ a < b := by rw [Int32.lt_iff_toInt_lt, iI_toInt ha, iI_toInt hb]
theorem iI_le {a b : Int} (ha : r32 a) (hb : r32 b) : iI a ≤ iI b ↔ a ≤ b := by rw [Int32.le_iff_toInt_le, iI_toInt ha, iI_toInt hb]
theorem iI_eq {a b : Int} (ha : r32 a) (hb : r32 b) : iI a = iI b ↔ a = b := ⟨fun h => by have h2 := congrArg Int32.toInt h; rwa [iI_toInt ha, iI_toInt hb] at h2, fun h => h ▸ rfl⟩
theorem r32_0 : r32 0 := ⟨by decide, by decide⟩
theorem iI_clamp {a : Int} (h0 : 0 ≤ a) (h : a < 2147483648) : (iI a).toNatClampNeg = a.toNat := Int32.toNatClampNeg_ofInt_of_le (by omega) (by omega)
theorem iI_in {a : Int} {n : Nat} (h0 : 0 ≤ a) (h : a < (n : Int)) (hn : n < 2147483648) : vp_in (iI a) n := by
  rw [vp_in_iff, iI_toInt ⟨by omega, by omega⟩]
  exact ⟨h0, h⟩

section ZI
variable {p : Program} {l : Launch} {e : Env} {R : Room} {s : State} {m : MethodId} {args : Array Value} {below : List Frame} {meth : Method} {c : Code} {H : Heap} {locs : List Loc} {cells slots : Nat} {Q : State → Prop} {cc : ByteArray} {pc : Nat} {ls : Array Slot} {rest : List Value}
theorem zi_iadd (hx : p.tables.exec = Jvm.exec) (hb : c.code = cc) {a b : Int} (hd : decode cc pc = .ok (.iadd, 1)) (k : W p l e R s m args below meth c H locs cells slots Q (F0 m (pc + 1) ls (.int (iI (a + b)) :: rest))) : W p l e R s m args below meth c H locs cells slots Q (F0 m pc ls (.int (iI b) :: .int (iI a) :: rest)) := lv_iadd hx hb hd (by rw [iI_add]; exact k)
theorem zi_isub (hx : p.tables.exec = Jvm.exec) (hb : c.code = cc) {a b : Int} (hd : decode cc pc = .ok (.isub, 1)) (k : W p l e R s m args below meth c H locs cells slots Q (F0 m (pc + 1) ls (.int (iI (a - b)) :: rest))) : W p l e R s m args below meth c H locs cells slots Q (F0 m pc ls (.int (iI b) :: .int (iI a) :: rest)) := lv_isub hx hb hd (by rw [iI_sub]; exact k)
theorem zi_imul (hx : p.tables.exec = Jvm.exec) (hb : c.code = cc) {a b : Int} (hd : decode cc pc = .ok (.imul, 1)) (k : W p l e R s m args below meth c H locs cells slots Q (F0 m (pc + 1) ls (.int (iI (a * b)) :: rest))) : W p l e R s m args below meth c H locs cells slots Q (F0 m pc ls (.int (iI b) :: .int (iI a) :: rest)) := lv_imul hx hb hd (by rw [iI_mul]; exact k)
theorem zi_iand (hx : p.tables.exec = Jvm.exec) (hb : c.code = cc) {a b r : Int} (hd : decode cc pc = .ok (.iand, 1)) (hv : iI a &&& iI b = iI r) (k : W p l e R s m args below meth c H locs cells slots Q (F0 m (pc + 1) ls (.int (iI r) :: rest))) : W p l e R s m args below meth c H locs cells slots Q (F0 m pc ls (.int (iI b) :: .int (iI a) :: rest)) := lv_iand hx hb hd (by rw [hv]; exact k)
theorem zi_ior (hx : p.tables.exec = Jvm.exec) (hb : c.code = cc) {a b r : Int} (hd : decode cc pc = .ok (.ior, 1)) (hv : iI a ||| iI b = iI r) (k : W p l e R s m args below meth c H locs cells slots Q (F0 m (pc + 1) ls (.int (iI r) :: rest))) : W p l e R s m args below meth c H locs cells slots Q (F0 m pc ls (.int (iI b) :: .int (iI a) :: rest)) := lv_ior hx hb hd (by rw [hv]; exact k)
theorem zi_ixor (hx : p.tables.exec = Jvm.exec) (hb : c.code = cc) {a b r : Int} (hd : decode cc pc = .ok (.ixor, 1)) (hv : iI a ^^^ iI b = iI r) (k : W p l e R s m args below meth c H locs cells slots Q (F0 m (pc + 1) ls (.int (iI r) :: rest))) : W p l e R s m args below meth c H locs cells slots Q (F0 m pc ls (.int (iI b) :: .int (iI a) :: rest)) := lv_ixor hx hb hd (by rw [hv]; exact k)
theorem zi_ishl (hx : p.tables.exec = Jvm.exec) (hb : c.code = cc) {a b r : Int} (hd : decode cc pc = .ok (.ishl, 1)) (hv : iI a <<< (iI b &&& 31) = iI r) (k : W p l e R s m args below meth c H locs cells slots Q (F0 m (pc + 1) ls (.int (iI r) :: rest))) : W p l e R s m args below meth c H locs cells slots Q (F0 m pc ls (.int (iI b) :: .int (iI a) :: rest)) := lv_ishl hx hb hd (by rw [hv]; exact k)
theorem zi_ishr (hx : p.tables.exec = Jvm.exec) (hb : c.code = cc) {a b r : Int} (hd : decode cc pc = .ok (.ishr, 1)) (hv : iI a >>> (iI b &&& 31) = iI r) (k : W p l e R s m args below meth c H locs cells slots Q (F0 m (pc + 1) ls (.int (iI r) :: rest))) : W p l e R s m args below meth c H locs cells slots Q (F0 m pc ls (.int (iI b) :: .int (iI a) :: rest)) := lv_ishr hx hb hd (by rw [hv]; exact k)
theorem zi_bipush (hx : p.tables.exec = Jvm.exec) (hb : c.code = cc) {n : Int} (hd : decode cc pc = .ok (.bipush n, 2)) (hv : (Int8.ofInt n).toInt32 = iI n) (k : W p l e R s m args below meth c H locs cells slots Q (F0 m (pc + 2) ls (.int (iI n) :: rest))) : W p l e R s m args below meth c H locs cells slots Q (F0 m pc ls rest) := lv_bipush hx hb hd hv k
theorem zi_sipush (hx : p.tables.exec = Jvm.exec) (hb : c.code = cc) {n : Int} (hd : decode cc pc = .ok (.sipush n, 3)) (hv : (Int16.ofInt n).toInt32 = iI n) (k : W p l e R s m args below meth c H locs cells slots Q (F0 m (pc + 3) ls (.int (iI n) :: rest))) : W p l e R s m args below meth c H locs cells slots Q (F0 m pc ls rest) := lv_sipush hx hb hd hv k
theorem zi_iconst (hx : p.tables.exec = Jvm.exec) (hb : c.code = cc) {n : Int} (hd : decode cc pc = .ok (.iconst n, 1)) (k : W p l e R s m args below meth c H locs cells slots Q (F0 m (pc + 1) ls (.int (iI n) :: rest))) : W p l e R s m args below meth c H locs cells slots Q (F0 m pc ls rest) := lv_iconst hx hb hd rfl k
theorem zi_icmp_eq (hx : p.tables.exec = Jvm.exec) (hb : c.code = cc) {a b : Int} {off : Int} {tgt : Nat} (hd : decode cc pc = .ok (.if_icmp .eq off, 3)) (ht : (pc : Int) + off = (tgt : Int)) (ra : r32 a) (rb : r32 b) (kt : a = b → W p l e R s m args below meth c H locs cells slots Q (F0 m tgt ls rest)) (kf : a ≠ b → W p l e R s m args below meth c H locs cells slots Q (F0 m (pc + 3) ls rest)) : W p l e R s m args below meth c H locs cells slots Q (F0 m pc ls (.int (iI b) :: .int (iI a) :: rest)) := lv_icmp_eq hx hb hd ht (fun h => kt ((iI_eq ra rb).mp h)) (fun h => kf (fun q => h ((iI_eq ra rb).mpr q)))
theorem zi_if_eq (hx : p.tables.exec = Jvm.exec) (hb : c.code = cc) {a : Int} {off : Int} {tgt : Nat} (hd : decode cc pc = .ok (.ifCond .eq off, 3)) (ht : (pc : Int) + off = (tgt : Int)) (ra : r32 a) (kt : a = 0 → W p l e R s m args below meth c H locs cells slots Q (F0 m tgt ls rest)) (kf : a ≠ 0 → W p l e R s m args below meth c H locs cells slots Q (F0 m (pc + 3) ls rest)) : W p l e R s m args below meth c H locs cells slots Q (F0 m pc ls (.int (iI a) :: rest)) := lv_if_eq hx hb hd ht (fun h => kt ((iI_eq ra r32_0).mp h)) (fun h => kf (fun q => h ((iI_eq ra r32_0).mpr q)))
theorem zi_icmp_ne (hx : p.tables.exec = Jvm.exec) (hb : c.code = cc) {a b : Int} {off : Int} {tgt : Nat} (hd : decode cc pc = .ok (.if_icmp .ne off, 3)) (ht : (pc : Int) + off = (tgt : Int)) (ra : r32 a) (rb : r32 b) (kt : a ≠ b → W p l e R s m args below meth c H locs cells slots Q (F0 m tgt ls rest)) (kf : a = b → W p l e R s m args below meth c H locs cells slots Q (F0 m (pc + 3) ls rest)) : W p l e R s m args below meth c H locs cells slots Q (F0 m pc ls (.int (iI b) :: .int (iI a) :: rest)) := lv_icmp_ne hx hb hd ht (fun h => kt (fun q => h ((iI_eq ra rb).mpr q))) (fun h => kf ((iI_eq ra rb).mp h))
theorem zi_if_ne (hx : p.tables.exec = Jvm.exec) (hb : c.code = cc) {a : Int} {off : Int} {tgt : Nat} (hd : decode cc pc = .ok (.ifCond .ne off, 3)) (ht : (pc : Int) + off = (tgt : Int)) (ra : r32 a) (kt : a ≠ 0 → W p l e R s m args below meth c H locs cells slots Q (F0 m tgt ls rest)) (kf : a = 0 → W p l e R s m args below meth c H locs cells slots Q (F0 m (pc + 3) ls rest)) : W p l e R s m args below meth c H locs cells slots Q (F0 m pc ls (.int (iI a) :: rest)) := lv_if_ne hx hb hd ht (fun h => kt (fun q => h ((iI_eq ra r32_0).mpr q))) (fun h => kf ((iI_eq ra r32_0).mp h))
theorem zi_icmp_lt (hx : p.tables.exec = Jvm.exec) (hb : c.code = cc) {a b : Int} {off : Int} {tgt : Nat} (hd : decode cc pc = .ok (.if_icmp .lt off, 3)) (ht : (pc : Int) + off = (tgt : Int)) (ra : r32 a) (rb : r32 b) (kt : a < b → W p l e R s m args below meth c H locs cells slots Q (F0 m tgt ls rest)) (kf : b ≤ a → W p l e R s m args below meth c H locs cells slots Q (F0 m (pc + 3) ls rest)) : W p l e R s m args below meth c H locs cells slots Q (F0 m pc ls (.int (iI b) :: .int (iI a) :: rest)) := lv_icmp_lt hx hb hd ht (fun h => kt ((iI_lt ra rb).mp h)) (fun h => kf (Int.not_lt.mp (fun q => h ((iI_lt ra rb).mpr q))))
theorem zi_if_lt (hx : p.tables.exec = Jvm.exec) (hb : c.code = cc) {a : Int} {off : Int} {tgt : Nat} (hd : decode cc pc = .ok (.ifCond .lt off, 3)) (ht : (pc : Int) + off = (tgt : Int)) (ra : r32 a) (kt : a < 0 → W p l e R s m args below meth c H locs cells slots Q (F0 m tgt ls rest)) (kf : 0 ≤ a → W p l e R s m args below meth c H locs cells slots Q (F0 m (pc + 3) ls rest)) : W p l e R s m args below meth c H locs cells slots Q (F0 m pc ls (.int (iI a) :: rest)) := lv_if_lt hx hb hd ht (fun h => kt ((iI_lt ra r32_0).mp h)) (fun h => kf (Int.not_lt.mp (fun q => h ((iI_lt ra r32_0).mpr q))))
theorem zi_icmp_ge (hx : p.tables.exec = Jvm.exec) (hb : c.code = cc) {a b : Int} {off : Int} {tgt : Nat} (hd : decode cc pc = .ok (.if_icmp .ge off, 3)) (ht : (pc : Int) + off = (tgt : Int)) (ra : r32 a) (rb : r32 b) (kt : b ≤ a → W p l e R s m args below meth c H locs cells slots Q (F0 m tgt ls rest)) (kf : a < b → W p l e R s m args below meth c H locs cells slots Q (F0 m (pc + 3) ls rest)) : W p l e R s m args below meth c H locs cells slots Q (F0 m pc ls (.int (iI b) :: .int (iI a) :: rest)) := lv_icmp_ge hx hb hd ht (fun h => kt ((iI_le rb ra).mp h)) (fun h => kf (Int.not_le.mp (fun q => h ((iI_le rb ra).mpr q))))
theorem zi_if_ge (hx : p.tables.exec = Jvm.exec) (hb : c.code = cc) {a : Int} {off : Int} {tgt : Nat} (hd : decode cc pc = .ok (.ifCond .ge off, 3)) (ht : (pc : Int) + off = (tgt : Int)) (ra : r32 a) (kt : 0 ≤ a → W p l e R s m args below meth c H locs cells slots Q (F0 m tgt ls rest)) (kf : a < 0 → W p l e R s m args below meth c H locs cells slots Q (F0 m (pc + 3) ls rest)) : W p l e R s m args below meth c H locs cells slots Q (F0 m pc ls (.int (iI a) :: rest)) := lv_if_ge hx hb hd ht (fun h => kt ((iI_le r32_0 ra).mp h)) (fun h => kf (Int.not_le.mp (fun q => h ((iI_le r32_0 ra).mpr q))))
theorem zi_icmp_gt (hx : p.tables.exec = Jvm.exec) (hb : c.code = cc) {a b : Int} {off : Int} {tgt : Nat} (hd : decode cc pc = .ok (.if_icmp .gt off, 3)) (ht : (pc : Int) + off = (tgt : Int)) (ra : r32 a) (rb : r32 b) (kt : b < a → W p l e R s m args below meth c H locs cells slots Q (F0 m tgt ls rest)) (kf : a ≤ b → W p l e R s m args below meth c H locs cells slots Q (F0 m (pc + 3) ls rest)) : W p l e R s m args below meth c H locs cells slots Q (F0 m pc ls (.int (iI b) :: .int (iI a) :: rest)) := lv_icmp_gt hx hb hd ht (fun h => kt ((iI_lt rb ra).mp h)) (fun h => kf (Int.not_lt.mp (fun q => h ((iI_lt rb ra).mpr q))))
theorem zi_if_gt (hx : p.tables.exec = Jvm.exec) (hb : c.code = cc) {a : Int} {off : Int} {tgt : Nat} (hd : decode cc pc = .ok (.ifCond .gt off, 3)) (ht : (pc : Int) + off = (tgt : Int)) (ra : r32 a) (kt : 0 < a → W p l e R s m args below meth c H locs cells slots Q (F0 m tgt ls rest)) (kf : a ≤ 0 → W p l e R s m args below meth c H locs cells slots Q (F0 m (pc + 3) ls rest)) : W p l e R s m args below meth c H locs cells slots Q (F0 m pc ls (.int (iI a) :: rest)) := lv_if_gt hx hb hd ht (fun h => kt ((iI_lt r32_0 ra).mp h)) (fun h => kf (Int.not_lt.mp (fun q => h ((iI_lt r32_0 ra).mpr q))))
theorem zi_icmp_le (hx : p.tables.exec = Jvm.exec) (hb : c.code = cc) {a b : Int} {off : Int} {tgt : Nat} (hd : decode cc pc = .ok (.if_icmp .le off, 3)) (ht : (pc : Int) + off = (tgt : Int)) (ra : r32 a) (rb : r32 b) (kt : a ≤ b → W p l e R s m args below meth c H locs cells slots Q (F0 m tgt ls rest)) (kf : b < a → W p l e R s m args below meth c H locs cells slots Q (F0 m (pc + 3) ls rest)) : W p l e R s m args below meth c H locs cells slots Q (F0 m pc ls (.int (iI b) :: .int (iI a) :: rest)) := lv_icmp_le hx hb hd ht (fun h => kt ((iI_le ra rb).mp h)) (fun h => kf (Int.not_le.mp (fun q => h ((iI_le ra rb).mpr q))))
theorem zi_if_le (hx : p.tables.exec = Jvm.exec) (hb : c.code = cc) {a : Int} {off : Int} {tgt : Nat} (hd : decode cc pc = .ok (.ifCond .le off, 3)) (ht : (pc : Int) + off = (tgt : Int)) (ra : r32 a) (kt : a ≤ 0 → W p l e R s m args below meth c H locs cells slots Q (F0 m tgt ls rest)) (kf : 0 < a → W p l e R s m args below meth c H locs cells slots Q (F0 m (pc + 3) ls rest)) : W p l e R s m args below meth c H locs cells slots Q (F0 m pc ls (.int (iI a) :: rest)) := lv_if_le hx hb hd ht (fun h => kt ((iI_le ra r32_0).mp h)) (fun h => kf (Int.not_le.mp (fun q => h ((iI_le ra r32_0).mpr q))))
end ZI
end
section
/-! What every contract takes as given: the classes, the links inside a nest, the statics; readers, calls, ends. -/
def bN (b : Bool) : Int := if b then 1 else 0
theorem bN_r (b : Bool) : r32 (bN b) := by cases b <;> exact ⟨by decide, by decide⟩
theorem bN_nar (b : Bool) : narrow .boolean (.int (iI (bN b))) = .int (iI (bN b)) := by cases b <;> decide +kernel
theorem bN_0 (b : Bool) : bN b = 0 ↔ b = false := by cases b <;> simp [bN]
theorem bN_d (p : Prop) (h : Decidable p) : bN (@decide p h) = if p then 1 else 0 := by
  by_cases q : p <;> simp [bN, q]
-- classes with their slots, array classes, addresses of statics, the heap's size at the law's entry
abbrev zP : Type := va_G × (Nat → ClassId) × (Nat → Nat) × Nat
abbrev zty (g : Nat → ClassId) : List (ClassId × FieldType) := [(g 0, .byte), (g 1, .boolean), (g 2, .int), (g 3, .long), (g 4, .object "ReplacementWriter$Row"), (g 5, .object "java/lang/Object"), (g 6, .array .int)]
def zOld (E : zP) : Nat → Prop := fun q => E.2.2.2 ≤ q
def zpairs : List Int := [65, 90, 1, 32, 0, 192, 214, 1, 32, 0, 216, 222, 1, 32, 0, 256, 302, 2, 1, 0, 306, 310, 2, 1, 0, 313, 327, 2, 1, 0, 330, 374, 2, 1, 0, 376, 376, 1, -121, 0, 377, 381, 2, 1, 0, 913, 929, 1, 32, 0, 931, 937, 1, 32, 0, 1024, 1039, 1, 80, 0, 1040, 1071, 1, 32, 0, 83, 83, 1, 300, 1, 924, 924, 1, -743, 1, 931, 931, 1, 31, 1, 8490, 8490, 1, -8383, 2, 8491, 8491, 1, -8262, 2]
def zST (E : zP) (U : State) (H : Heap) : Prop :=
  va_Z "ReplacementWriter$Cases" "PAIRS" "[I" (.ref (E.2.2.1 0)) (zOld E) U H ∧ va_T .int (E.2.2.1 0) 90 (fun j => .int (iI (zpairs.getD j 0))) (zOld E) U H ∧
  va_Z "ReplacementWriter$Turn" "AS_IT_IS" "LReplacementWriter$Turn;" (.ref (E.2.2.1 1)) (zOld E) U H ∧ va_Z "ReplacementWriter$Turn" "UPPER" "LReplacementWriter$Turn;" (.ref (E.2.2.1 2)) (zOld E) U H ∧ va_Z "ReplacementWriter$Turn" "LOWER" "LReplacementWriter$Turn;" (.ref (E.2.2.1 3)) (zOld E) U H ∧
  E.2.2.1 1 ≠ E.2.2.1 2 ∧ E.2.2.1 1 ≠ E.2.2.1 3 ∧ E.2.2.1 2 ≠ E.2.2.1 3
def zN (U : State) : Prop :=
  va_Nw (.fieldLinkNest "ReplacementWriter$Groups" 79 "ReplacementWriter$Name" "group" "I" "ReplacementWriter") U ∧
  va_Nw (.methodLinkNest "ReplacementWriter" 136 ⟨"ReplacementWriter$Writing", "writePart", "(III)V"⟩ "ReplacementWriter") U ∧
  va_Nw (.methodLinkNest "ReplacementWriterModel" 27 ⟨"ReplacementWriterModel$Holder", "<init>", "()V"⟩ "ReplacementWriterModel") U ∧
  va_Nw (.methodLinkNest "ReplacementWriterModel" 116 ⟨"ReplacementWriterModel$Template", "digit", "(I)Z"⟩ "ReplacementWriterModel") U ∧
  va_Nw (.methodLinkNest "ReplacementWriterModel" 120 ⟨"ReplacementWriterModel$Template", "wordly", "(I)Z"⟩ "ReplacementWriterModel") U
def zE (E : zP) (U : State) (H : Heap) : Prop := va_K E.1 zcl (zty E.2.1) U ∧ E.2.2.2 ≤ H.size ∧ zN U ∧ zST E U H
theorem zE.moved {E : zP} {s U : State} {H : Heap} (hW : s.WarmedH U.vm) (h : zE E s H) : zE E U H := by
  obtain ⟨h1, h2, ⟨n1, n2, n3, n4, n5⟩, z1, z2, z3, z4, z5, z6⟩ := h
  exact ⟨va_K.moved hW.alike h1, h2, ⟨va_Nw.warmF hW n1, va_Nw.warmM hW n2, va_Nw.warmM hW n3, va_Nw.warmM hW n4, va_Nw.warmM hW n5⟩, z1.moved hW.alike, z2.moved hW.alike, z3.moved hW.alike, z4.moved hW.alike, z5.moved hW.alike, z6⟩
theorem zE.kept {E : zP} {U : State} {H H1 : Heap} (h : zE E U H) (hz : H.size ≤ H1.size) (hq : ∀ q : Nat, q < E.2.2.2 → H1[q]? = H[q]?) : zE E U H1 := by
  obtain ⟨h1, h2, h3, z1, z2, z3, z4, z5, z6⟩ := h
  have k : ∀ a : Nat, a < H.size → ¬ zOld E a → H1[a]? = H[a]? := fun a _ na => hq a (Nat.not_le.mp na)
  exact ⟨h1, Nat.le_trans h2 hz, h3, z1.kept k, z2.kept k, z3.kept k, z4.kept k, z5.kept k, z6⟩
theorem zE.at {E : zP} {s : State} {H : Heap} {A : Nat → Prop} {locs : List Loc} (h : zE E s s.heap) (hS : va_S A s.heap H locs) (hA : ∀ q, A q → E.2.2.2 ≤ q) : zE E s H :=
  h.kept hS.1 (fun q hq => hS.2.1 q (Nat.lt_of_lt_of_le hq h.2.1) (fun z => Nat.not_le.mpr hq (hA q z)))
def zPc (E : zP) (av : List Value) (Pre : Heap → Prop) : Array Value → State → Prop := va_Pc av (fun U => zE E U U.heap ∧ Pre U.heap)
theorem zPc_blind (E : zP) (av : List Value) (Pre : Heap → Prop) : FrameBlind (zPc E av Pre) := fun a U g mk h => ⟨h.1, zE.moved (U := U.calling g mk a) (State.WarmedH.refl U) h.2.1, h.2.2⟩
theorem zPreS {E : zP} {s : State} {H : Heap} {As : List Value} {Pre : Heap → Prop} (hE : zE E s H) (hp : Pre H) : PreS s H (zPc E As Pre) As := ⟨zPc_blind E As Pre, fun U hU hW => ⟨rfl, by rw [hU]; exact hE.moved hW, by rw [hU]; exact hp⟩⟩
-- cells
abbrev zO (E : zP) (ci a : Nat) (fs : List Value) (H : Heap) : Prop := va_at E.1 zcl (a, .inr (ci, fs)) H
abbrev zA (E : zP) (k a n : Nat) (f : Nat → Int32) (H : Heap) : Prop := va_at E.1 zcl (a, .inl (E.2.1 k, n, .inl f)) H
abbrev zQ (E : zP) (k a n : Nat) (f : Nat → Option Nat) (H : Heap) : Prop := va_at E.1 zcl (a, .inl (E.2.1 k, n, .inr (.inr (.inr (.inr f))))) H
theorem zP1 {E : zP} {q : Nat × va_E} {H : Heap} (h : va_at E.1 zcl q H) : va_P E.1 zcl [q] H := fun k x hk => by
  cases k with
  | zero => cases hk; exact h
  | succ k => cases hk
theorem zPreV {E : zP} {s : State} {H : Heap} {b ci : Nat} {fs : List Value} {C : String} {T : u_T} {N : Nat} {As : List Value} {Pre : Heap → Prop} (hE : zE E s H) (hO : zO E ci b fs H) (hc : zcl[ci]? = some (C, T, N)) (hp : Pre H) : PreV s H C b (zPc E (.ref b :: As) Pre) As := by
  refine ⟨zPc_blind E _ Pre, ?_, fun U hU hW => ⟨rfl, by rw [hU]; exact hE.moved hW, by rw [hU]; exact hp⟩⟩
  obtain ⟨r, h1, cell, q1, q2, q3, -⟩ := hO
  obtain ⟨-, hfc, -⟩ := hE.1.1 ci _ hc
  exact ⟨cell, q1, by rw [q3]; rfl, by rw [q2]; exact hfc⟩
-- a method's contract out of a walk from its first instruction
theorem zMet {l : Launch} {y : MethodName} {cc : ByteArray} {maxL : Nat} {ret : Option FieldType} {rm : Room} {E : zP} {av : List Value} {Pre : Heap → Prop} {Qc : Array Value → State → Outcome → State → Prop} {mc ms : Nat} {free : Addr → Prop} (hy : plainName y.cls = true) (hn : (lg_sl av).length ≤ maxL)
    (body : ∀ (p : Program) (e : Env) (s : State) (m : MethodId) (below : List Frame) (meth : Method) (c : Code) (ls : Array Slot), CallFix p m c cc maxL s av.toArray zw y.cls → meth.sig.returnType = ret → meth.locks = false → meth.name = y.name → zE E s s.heap → Pre s.heap → lv_has ls maxL (lv_args 0 av) →
      W p l e rm s m av.toArray below meth c s.heap [] 0 0 (MQ below Qc av.toArray s mc ms free) (F0 m 0 ls [])) : Met l y (.code y cc maxL ret :: zw) rm (zPc E av Pre) Qc mc ms free := by
  refine Met.ofW (cc := cc) (maxL := maxL) (ret := ret) hy rfl ?_
  intro p e s m args below meth c s₁ B hml hv
  obtain ⟨rfl, hE, hp⟩ := hv
  have hts := atoms_spec (ws := .code y cc maxL ret :: zw) B.pre
  rw [lg_entry_eq]
  exact body p e s m below meth c _ ⟨B.exec, B.bytes, hml, findClass_of_methodNamed B.named, fun w h => hts w (List.mem_cons_of_mem _ h)⟩ B.returns B.notSynchronized (name_of_methodNamed B.named B.method).1 hE hp (lv_entry av hn)
theorem zMetF {l : Launch} {y : MethodName} {cc : ByteArray} {maxL : Nat} {ret : Option FieldType} {rm : Room} {E : zP} {av : List Value} {Pre : Heap → Prop} {Qc : Array Value → State → Outcome → State → Prop} {mc ms : Nat} {free : Addr → Prop} (hy : plainFor y = true) (hn : (lg_sl av).length ≤ maxL)
    (body : ∀ (p : Program) (e : Env) (s : State) (m : MethodId) (below : List Frame) (meth : Method) (c : Code) (ls : Array Slot), CallFix p m c cc maxL s av.toArray zw y.cls → meth.sig.returnType = ret → meth.locks = false → meth.name = y.name → zE E s s.heap → Pre s.heap → lv_has ls maxL (lv_args 0 av) →
      W p l e rm s m av.toArray below meth c s.heap [] 0 0 (MQ below Qc av.toArray s mc ms free) (F0 m 0 ls [])) : Met l y (.code y cc maxL ret :: zw) rm (zPc E av Pre) Qc mc ms free := by
  refine va_MetF (cc := cc) (maxL := maxL) (ret := ret) hy rfl ?_
  intro p e s m args below meth c s₁ B hml hv
  obtain ⟨rfl, hE, hp⟩ := hv
  have hts := atoms_spec (ws := .code y cc maxL ret :: zw) B.pre
  rw [lg_entry_eq]
  exact body p e s m below meth c _ ⟨B.exec, B.bytes, hml, findClass_of_methodNamed B.named, fun w h => hts w (List.mem_cons_of_mem _ h)⟩ B.returns B.notSynchronized (name_of_methodNamed B.named B.method).1 hE hp (lv_entry av hn)
-- readers: the heap stays as it is
def zR (v : Option Value) : Array Value → State → Outcome → State → Prop := fun _ st oc t => oc = .returned v ∧ t.heap = st.heap
section ZB
variable {p : Program} {l : Launch} {e : Env} {R : Room} {s : State} {m : MethodId} {args : Array Value} {below : List Frame} {meth : Method} {c : Code} {H : Heap} {locs : List Loc} {cells slots : Nat} {Q : State → Prop} {cc : ByteArray} {pc nL : Nat} {ls : Array Slot} {rest st0 : List Value} {a : Array Value} {own : String} {Ts : List Cond}
theorem zcR {v : Value} (hr : va_Run p l e R s m args below meth c H locs cells slots 0 0 (F0 m pc ls st0) rest (zR (some v) a) (fun _ => False)) (kk : W p l e R s m args below meth c H locs cells slots Q (F0 m (pc + 3) ls (v :: rest))) : W p l e R s m args below meth c H locs cells slots Q (F0 m pc ls st0) := by
  intro T hT X
  obtain ⟨v', st₀, t, T', L, h0, X', hL, e1, e2, ⟨hv, hh⟩, st⟩ := hr T hT X
  cases hv
  have hLn : L = [] := List.eq_nil_iff_forall_not_mem.mpr (fun q hq => hL q hq)
  subst hLn
  rw [List.append_nil] at X'
  obtain ⟨t2, a1, b1⟩ := kk T' (by rw [e1, hh, h0]) X'
  exact ⟨t2, st t2 a1, b1⟩
theorem zretI {v r : Int32} {free : Addr → Prop} (S : CallFix p m c cc nL s args Ts own) (hr : meth.sig.returnType = some .int) (hlk : meth.locks = false) (hd : decode cc pc = .ok (.ireturn, 1)) (hv : v = r) : W p l e R s m args below meth c s.heap [] cells slots (MQ below (zR (some (.int r))) args s cells slots free) (F0 m pc ls [.int v]) := by
  subst hv
  exact W.iret S.1 S.2.1 hr (fun t ht _ => ⟨rfl, ht⟩) (fun _ h => nomatch h) hd (hlocks := hlk)
theorem zretZ {b r : Bool} {free : Addr → Prop} (S : CallFix p m c cc nL s args Ts own) (hr : meth.sig.returnType = some .boolean) (hlk : meth.locks = false) (hd : decode cc pc = .ok (.ireturn, 1)) (hv : b = r) : W p l e R s m args below meth c s.heap [] cells slots (MQ below (zR (some (.int (iI (bN r))))) args s cells slots free) (F0 m pc ls [.int (iI (bN b))]) := by
  subst hv
  exact W.zret S.1 S.2.1 hr (bN_nar b) (fun t ht _ => ⟨rfl, ht⟩) (fun _ h => nomatch h) hd (hlocks := hlk)
theorem zretA {x r : Nat} {rt : FieldType} {free : Addr → Prop} (S : CallFix p m c cc nL s args Ts own) (hr : meth.sig.returnType = some rt) (hrt : (∃ n, rt = .object n) ∨ ∃ t, rt = .array t) (hlk : meth.locks = false) (hd : decode cc pc = .ok (.areturn, 1)) (hv : x = r) : W p l e R s m args below meth c s.heap [] cells slots (MQ below (zR (some (.ref r))) args s cells slots free) (F0 m pc ls [.ref x]) := by
  subst hv
  exact W.aret S.1 S.2.1 hr hrt (Or.inr ⟨_, rfl⟩) (fun t ht _ => ⟨rfl, ht⟩) (fun _ h => nomatch h) hd (hlocks := hlk)
theorem zb_ifeq (hx : p.tables.exec = Jvm.exec) (hb : c.code = cc) {b : Bool} {off : Int} {tgt : Nat} (hd : decode cc pc = .ok (.ifCond .eq off, 3)) (ht : (pc : Int) + off = (tgt : Int)) (kt : b = false → W p l e R s m args below meth c H locs cells slots Q (F0 m tgt ls rest)) (kf : b = true → W p l e R s m args below meth c H locs cells slots Q (F0 m (pc + 3) ls rest)) : W p l e R s m args below meth c H locs cells slots Q (F0 m pc ls (.int (iI (bN b)) :: rest)) :=
  zi_if_eq hx hb hd ht (bN_r b) (fun h => kt ((bN_0 b).mp h)) (fun h => kf (by cases b; exact absurd ((bN_0 false).mpr rfl) h; rfl))
theorem zb_ifne (hx : p.tables.exec = Jvm.exec) (hb : c.code = cc) {b : Bool} {off : Int} {tgt : Nat} (hd : decode cc pc = .ok (.ifCond .ne off, 3)) (ht : (pc : Int) + off = (tgt : Int)) (kt : b = true → W p l e R s m args below meth c H locs cells slots Q (F0 m tgt ls rest)) (kf : b = false → W p l e R s m args below meth c H locs cells slots Q (F0 m (pc + 3) ls rest)) : W p l e R s m args below meth c H locs cells slots Q (F0 m pc ls (.int (iI (bN b)) :: rest)) :=
  zi_if_ne hx hb hd ht (bN_r b) (fun h => kt (by cases b; exact absurd ((bN_0 false).mpr rfl) h; rfl)) (fun h => kf ((bN_0 b).mp h))
-- fields
theorem zgf {E : zP} {C : String} {T : u_T} {N ci index x : Nat} {fs : List Value} {v : Value} (S : CallFix p m c cc nL s args zw own) (hE : zE E s H) (hc : zcl[ci]? = some (C, T, N)) (hin : ∀ w ∈ u_ws C T N, w ∈ zw) (hO : zO E ci x fs H) (k : Nat) (hk : k < N) (hl : Cond.fieldLink own index (T k).1 (T k).2.1 (T k).2.2.1 ∈ zw) (hv : fs[k]? = some v) (hd : decode cc pc = .ok (.getfield index, 3))
    (kk : W p l e R s m args below meth c H locs cells slots Q (F0 m (pc + 3) ls (v :: rest))) : W p l e R s m args below meth c H locs cells slots Q (F0 m pc ls (.ref x :: rest)) :=
  va_get S.1 S.2.1 S.2.2.2.2 hin S.2.2.2.1 hE.1 (zP1 hO) 0 rfl hc k hk (S.2.2.2.2 _ hl) (fun _ h => h) hv hd kk
-- calls
theorem zcwB {y : MethodName} {bytes : ByteArray} {maxL n mc ms index : Nat} {ret : Option FieldType} {rm : Room} (S : CallFix p m c cc nL s args zw own) (hcode : Cond.code y bytes maxL ret ∈ zw) (hini : Cond.initialized y.cls ∈ zw) (hlink : Cond.methodLink own index y ∈ zw) (hd : y.cls ≠ "java/lang/invoke/MethodHandle" ∧ y.cls ≠ "java/lang/invoke/VarHandle" ∧ (parseMethodDescriptor y.desc).map (fun d => d.parameters.length) = some n) (hrc : rm.cells = mc) (hrs : rm.slots = ms) (hR : rm.frames + 1 ≤ R.frames ∧ 8 + (maxL + 11) + rm.locals ≤ R.locals) : CallB R s args own index y bytes maxL ret (Cond.code y bytes maxL ret :: zw) rm mc ms n :=
  callB_of n S.2.2.2.2 (zG hcode) rfl hrc hrs (S.2.2.2.2 _ hini) (S.2.2.2.2 _ hlink) hd hR
end ZB
section ZB2
variable {p : Program} {l : Launch} {e : Env} {R : Room} {s : State} {m : MethodId} {args : Array Value} {below : List Frame} {meth : Method} {c : Code} {H : Heap} {locs : List Loc} {cells slots : Nat} {Q : State → Prop} {cc : ByteArray} {pc nL : Nat} {ls : Array Slot} {rest st0 : List Value} {a : Array Value} {own : String} {Ts : List Cond}
theorem zldc {index : Nat} {v : Int32} {n : Int} (S : CallFix p m c cc nL s args zw own) (hk : Cond.constant own index v ∈ zw) (hv : v = iI n) (hd : decode cc pc = .ok (.ldc index, 2)) (kk : W p l e R s m args below meth c H locs cells slots Q (F0 m (pc + 2) ls (.int (iI n) :: rest))) : W p l e R s m args below meth c H locs cells slots Q (F0 m pc ls rest) := by
  subst hv
  exact lv_ldc S.1 S.2.1 S.2.2.2.1 (S.2.2.2.2 _ hk) hd kk
theorem zbald {E : zP} {x n : Nat} {f : Nat → Int32} {i : Int} (hx : p.tables.exec = Jvm.exec) (hb : c.code = cc) (hE : zE E s H) (hA : zA E 0 x n f H) (h0 : 0 ≤ i) (h1 : i < (n : Int)) (hn : n < 2147483648) (hd : decode cc pc = .ok (.baload, 1)) (kk : W p l e R s m args below meth c H locs cells slots Q (F0 m (pc + 1) ls (.int (f i.toNat) :: rest))) : W p l e R s m args below meth c H locs cells slots Q (F0 m pc ls (.int (iI i) :: .ref x :: rest)) :=
  va_bald hx hb hE.1 (zP1 hA) 0 0 rfl rfl (iI_in h0 h1 hn) hd (by rw [iI_clamp h0 (by omega)]; exact kk)
theorem zzald {E : zP} {x n : Nat} {f : Nat → Int32} {i : Int} (hx : p.tables.exec = Jvm.exec) (hb : c.code = cc) (hE : zE E s H) (hA : zA E 1 x n f H) (h0 : 0 ≤ i) (h1 : i < (n : Int)) (hn : n < 2147483648) (hd : decode cc pc = .ok (.baload, 1)) (kk : W p l e R s m args below meth c H locs cells slots Q (F0 m (pc + 1) ls (.int (f i.toNat) :: rest))) : W p l e R s m args below meth c H locs cells slots Q (F0 m pc ls (.int (iI i) :: .ref x :: rest)) :=
  va_zald hx hb hE.1 (zP1 hA) 0 1 rfl rfl (iI_in h0 h1 hn) hd (by rw [iI_clamp h0 (by omega)]; exact kk)
theorem ziald {E : zP} {x n : Nat} {f : Nat → Int32} {i : Int} (hx : p.tables.exec = Jvm.exec) (hb : c.code = cc) (hE : zE E s H) (hA : zA E 2 x n f H) (h0 : 0 ≤ i) (h1 : i < (n : Int)) (hn : n < 2147483648) (hd : decode cc pc = .ok (.iaload, 1)) (kk : W p l e R s m args below meth c H locs cells slots Q (F0 m (pc + 1) ls (.int (f i.toNat) :: rest))) : W p l e R s m args below meth c H locs cells slots Q (F0 m pc ls (.int (iI i) :: .ref x :: rest)) :=
  va_iald hx hb hE.1 (zP1 hA) 0 2 rfl rfl (iI_in h0 h1 hn) hd (by rw [iI_clamp h0 (by omega)]; exact kk)
end ZB2
-- bytes in a byte array
theorem sb_iI {n : Nat} (h : n < 256) : sb_b n &&& iI 255 = iI (n : Int) := by rw [show iI 255 = (255 : Int32) from rfl, (sb_byte n h).1, iI_nI]
def zbytes (b : List Nat) (cap : Nat) (f : Nat → Int32) : Prop := b.length ≤ cap ∧ cap < 2147483648 ∧ (∀ x ∈ b, x < 256) ∧ ∀ j, j < b.length → f j = sb_b (b.getD j 0)
def zrow (E : zP) (a : Nat) (b : List Nat) (H : Heap) : Prop := ∃ (most : Int) (q cap : Nat) (f : Nat → Int32), zO E 1 a [.int (iI most), .ref q, .int (iI (b.length : Nat))] H ∧ zA E 0 q cap f H ∧ zbytes b cap f
-- what a row says at an index
def sp_at (b : List Nat) (k : Int) : Int := if 0 ≤ k ∧ k < (b.length : Nat) then (b.getD k.toNat 0 : Nat) else -1
theorem getD_lt {b : List Nat} {j m : Nat} (h : ∀ x ∈ b, x < m) (hj : j < b.length) : b.getD j 0 < m := by
  rw [List.getD_eq_getElem?_getD, List.getElem?_eq_getElem hj]
  exact h _ (List.getElem_mem hj)
theorem sp_at_r (b : List Nat) (k : Int) (h : ∀ x ∈ b, x < 256) : -1 ≤ sp_at b k ∧ sp_at b k < 256 := by
  unfold sp_at
  split
  · have := getD_lt (m := 256) h (j := k.toNat) (by omega)
    omega
  · omega
theorem zrow.lt {E : zP} {a : Nat} {b : List Nat} {H : Heap} (h : zrow E a b H) : ∀ x ∈ b, x < 256 := by
  obtain ⟨_, _, _, _, _, _, hB⟩ := h
  exact hB.2.2.1
theorem zrow.len {E : zP} {a : Nat} {b : List Nat} {H : Heap} (h : zrow E a b H) : b.length < 2147483648 := by
  obtain ⟨_, _, _, _, _, _, hB⟩ := h
  exact Nat.lt_of_le_of_lt hB.1 hB.2.1
theorem zrow.kept {E : zP} {a : Nat} {b : List Nat} {H H1 : Heap} (h : zrow E a b H) (hq : ∀ q : Nat, q < H.size → H1[q]? = H[q]?) : zrow E a b H1 := by
  obtain ⟨most, q, cap, f, hO, hA, hB⟩ := h
  exact ⟨most, q, cap, f, hO.kept (hq _ hO.lt), hA.kept (hq _ hA.lt), hB⟩
theorem zPreVrow {E : zP} {s : State} {H : Heap} {b : Nat} {t : List Nat} {As : List Value} {Pre : Heap → Prop} (hE : zE E s H) (h : zrow E b t H) (hp : Pre H) : PreV s H "ReplacementWriter$Row" b (zPc E (.ref b :: As) Pre) As := by
  obtain ⟨most, q, cap, f, hO, -⟩ := h
  exact zPreV hE hO rfl hp
end
section
/-! Codes and what decodes from them. Laid by mkbase.py. -/
abbrev b_Row_init : ByteArray := prog_9_method_1_code
abbrev y_Row_init : MethodName := ⟨"ReplacementWriter$Row", "<init>", "(I)V"⟩
theorem d_Row_init_0 : decode b_Row_init 0 = .ok (.aload_n 0, 1) := by decide +kernel
theorem d_Row_init_1 : decode b_Row_init 1 = .ok (.invokespecial 1, 3) := by decide +kernel
theorem d_Row_init_4 : decode b_Row_init 4 = .ok (.aload_n 0, 1) := by decide +kernel
theorem d_Row_init_5 : decode b_Row_init 5 = .ok (.bipush 16, 2) := by decide +kernel
theorem d_Row_init_7 : decode b_Row_init 7 = .ok (.newarray .byte, 2) := by decide +kernel
theorem d_Row_init_9 : decode b_Row_init 9 = .ok (.putfield 9, 3) := by decide +kernel
theorem d_Row_init_12 : decode b_Row_init 12 = .ok (.aload_n 0, 1) := by decide +kernel
theorem d_Row_init_13 : decode b_Row_init 13 = .ok (.iconst 0, 1) := by decide +kernel
theorem d_Row_init_14 : decode b_Row_init 14 = .ok (.putfield 13, 3) := by decide +kernel
theorem d_Row_init_17 : decode b_Row_init 17 = .ok (.aload_n 0, 1) := by decide +kernel
theorem d_Row_init_18 : decode b_Row_init 18 = .ok (.iload_n 1, 1) := by decide +kernel
theorem d_Row_init_19 : decode b_Row_init 19 = .ok (.putfield 17, 3) := by decide +kernel
theorem d_Row_init_22 : decode b_Row_init 22 = .ok (.return_, 1) := by decide +kernel
abbrev b_Groups_init : ByteArray := prog_6_method_1_code
abbrev y_Groups_init : MethodName := ⟨"ReplacementWriter$Groups", "<init>", "()V"⟩
theorem d_Groups_init_0 : decode b_Groups_init 0 = .ok (.aload_n 0, 1) := by decide +kernel
theorem d_Groups_init_1 : decode b_Groups_init 1 = .ok (.invokespecial 3, 3) := by decide +kernel
theorem d_Groups_init_4 : decode b_Groups_init 4 = .ok (.aload_n 0, 1) := by decide +kernel
theorem d_Groups_init_5 : decode b_Groups_init 5 = .ok (.bipush 100, 2) := by decide +kernel
theorem d_Groups_init_7 : decode b_Groups_init 7 = .ok (.anewarray 9, 3) := by decide +kernel
theorem d_Groups_init_10 : decode b_Groups_init 10 = .ok (.putfield 11, 3) := by decide +kernel
theorem d_Groups_init_13 : decode b_Groups_init 13 = .ok (.aload_n 0, 1) := by decide +kernel
theorem d_Groups_init_14 : decode b_Groups_init 14 = .ok (.bipush 100, 2) := by decide +kernel
theorem d_Groups_init_16 : decode b_Groups_init 16 = .ok (.newarray .boolean, 2) := by decide +kernel
theorem d_Groups_init_18 : decode b_Groups_init 18 = .ok (.putfield 17, 3) := by decide +kernel
theorem d_Groups_init_21 : decode b_Groups_init 21 = .ok (.aload_n 0, 1) := by decide +kernel
theorem d_Groups_init_22 : decode b_Groups_init 22 = .ok (.new 21, 3) := by decide +kernel
theorem d_Groups_init_25 : decode b_Groups_init 25 = .ok (.dup, 1) := by decide +kernel
theorem d_Groups_init_26 : decode b_Groups_init 26 = .ok (.invokespecial 23, 3) := by decide +kernel
theorem d_Groups_init_29 : decode b_Groups_init 29 = .ok (.putfield 24, 3) := by decide +kernel
theorem d_Groups_init_32 : decode b_Groups_init 32 = .ok (.aload_n 0, 1) := by decide +kernel
theorem d_Groups_init_33 : decode b_Groups_init 33 = .ok (.new 9, 3) := by decide +kernel
theorem d_Groups_init_36 : decode b_Groups_init 36 = .ok (.dup, 1) := by decide +kernel
theorem d_Groups_init_37 : decode b_Groups_init 37 = .ok (.ldc 28, 2) := by decide +kernel
theorem d_Groups_init_39 : decode b_Groups_init 39 = .ok (.invokespecial 29, 3) := by decide +kernel
theorem d_Groups_init_42 : decode b_Groups_init 42 = .ok (.putfield 32, 3) := by decide +kernel
theorem d_Groups_init_45 : decode b_Groups_init 45 = .ok (.aload_n 0, 1) := by decide +kernel
theorem d_Groups_init_46 : decode b_Groups_init 46 = .ok (.iconst 0, 1) := by decide +kernel
theorem d_Groups_init_47 : decode b_Groups_init 47 = .ok (.putfield 36, 3) := by decide +kernel
theorem d_Groups_init_50 : decode b_Groups_init 50 = .ok (.aload_n 0, 1) := by decide +kernel
theorem d_Groups_init_51 : decode b_Groups_init 51 = .ok (.iconst 0, 1) := by decide +kernel
theorem d_Groups_init_52 : decode b_Groups_init 52 = .ok (.putfield 40, 3) := by decide +kernel
theorem d_Groups_init_55 : decode b_Groups_init 55 = .ok (.iconst 0, 1) := by decide +kernel
theorem d_Groups_init_56 : decode b_Groups_init 56 = .ok (.istore_n 1, 1) := by decide +kernel
theorem d_Groups_init_57 : decode b_Groups_init 57 = .ok (.iload_n 1, 1) := by decide +kernel
theorem d_Groups_init_58 : decode b_Groups_init 58 = .ok (.aload_n 0, 1) := by decide +kernel
theorem d_Groups_init_59 : decode b_Groups_init 59 = .ok (.getfield 11, 3) := by decide +kernel
theorem d_Groups_init_62 : decode b_Groups_init 62 = .ok (.arraylength, 1) := by decide +kernel
theorem d_Groups_init_63 : decode b_Groups_init 63 = .ok (.if_icmp .ge 24, 3) := by decide +kernel
theorem d_Groups_init_66 : decode b_Groups_init 66 = .ok (.aload_n 0, 1) := by decide +kernel
theorem d_Groups_init_67 : decode b_Groups_init 67 = .ok (.getfield 11, 3) := by decide +kernel
theorem d_Groups_init_70 : decode b_Groups_init 70 = .ok (.iload_n 1, 1) := by decide +kernel
theorem d_Groups_init_71 : decode b_Groups_init 71 = .ok (.new 9, 3) := by decide +kernel
theorem d_Groups_init_74 : decode b_Groups_init 74 = .ok (.dup, 1) := by decide +kernel
theorem d_Groups_init_75 : decode b_Groups_init 75 = .ok (.ldc 28, 2) := by decide +kernel
theorem d_Groups_init_77 : decode b_Groups_init 77 = .ok (.invokespecial 29, 3) := by decide +kernel
theorem d_Groups_init_80 : decode b_Groups_init 80 = .ok (.aastore, 1) := by decide +kernel
theorem d_Groups_init_81 : decode b_Groups_init 81 = .ok (.iinc 1 1, 3) := by decide +kernel
theorem d_Groups_init_84 : decode b_Groups_init 84 = .ok (.goto (-27), 3) := by decide +kernel
theorem d_Groups_init_87 : decode b_Groups_init 87 = .ok (.return_, 1) := by decide +kernel
abbrev b_Encoding_init : ByteArray := prog_4_method_1_code
abbrev y_Encoding_init : MethodName := ⟨"ReplacementWriter$Encoding", "<init>", "(Z)V"⟩
theorem d_Encoding_init_0 : decode b_Encoding_init 0 = .ok (.aload_n 0, 1) := by decide +kernel
theorem d_Encoding_init_1 : decode b_Encoding_init 1 = .ok (.invokespecial 1, 3) := by decide +kernel
theorem d_Encoding_init_4 : decode b_Encoding_init 4 = .ok (.aload_n 0, 1) := by decide +kernel
theorem d_Encoding_init_5 : decode b_Encoding_init 5 = .ok (.iload_n 1, 1) := by decide +kernel
theorem d_Encoding_init_6 : decode b_Encoding_init 6 = .ok (.putfield 7, 3) := by decide +kernel
theorem d_Encoding_init_9 : decode b_Encoding_init 9 = .ok (.return_, 1) := by decide +kernel
abbrev b_Cases_init : ByteArray := prog_3_method_1_code
abbrev y_Cases_init : MethodName := ⟨"ReplacementWriter$Cases", "<init>", "(ZZ)V"⟩
theorem d_Cases_init_0 : decode b_Cases_init 0 = .ok (.aload_n 0, 1) := by decide +kernel
theorem d_Cases_init_1 : decode b_Cases_init 1 = .ok (.invokespecial 3, 3) := by decide +kernel
theorem d_Cases_init_4 : decode b_Cases_init 4 = .ok (.aload_n 0, 1) := by decide +kernel
theorem d_Cases_init_5 : decode b_Cases_init 5 = .ok (.iload_n 1, 1) := by decide +kernel
theorem d_Cases_init_6 : decode b_Cases_init 6 = .ok (.ifCond .eq 10, 3) := by decide +kernel
theorem d_Cases_init_9 : decode b_Cases_init 9 = .ok (.getstatic 9, 3) := by decide +kernel
theorem d_Cases_init_12 : decode b_Cases_init 12 = .ok (.arraylength, 1) := by decide +kernel
theorem d_Cases_init_13 : decode b_Cases_init 13 = .ok (.goto 13, 3) := by decide +kernel
theorem d_Cases_init_16 : decode b_Cases_init 16 = .ok (.iload_n 2, 1) := by decide +kernel
theorem d_Cases_init_17 : decode b_Cases_init 17 = .ok (.ifCond .eq 8, 3) := by decide +kernel
theorem d_Cases_init_20 : decode b_Cases_init 20 = .ok (.bipush 15, 2) := by decide +kernel
theorem d_Cases_init_22 : decode b_Cases_init 22 = .ok (.goto 4, 3) := by decide +kernel
theorem d_Cases_init_25 : decode b_Cases_init 25 = .ok (.iconst 5, 1) := by decide +kernel
theorem d_Cases_init_26 : decode b_Cases_init 26 = .ok (.putfield 13, 3) := by decide +kernel
theorem d_Cases_init_29 : decode b_Cases_init 29 = .ok (.return_, 1) := by decide +kernel
abbrev b_Output_init : ByteArray := prog_8_method_1_code
abbrev y_Output_init : MethodName := ⟨"ReplacementWriter$Output", "<init>", "(LReplacementWriter$Encoding;LReplacementWriter$Cases;)V"⟩
theorem d_Output_init_0 : decode b_Output_init 0 = .ok (.aload_n 0, 1) := by decide +kernel
theorem d_Output_init_1 : decode b_Output_init 1 = .ok (.invokespecial 3, 3) := by decide +kernel
theorem d_Output_init_4 : decode b_Output_init 4 = .ok (.aload_n 0, 1) := by decide +kernel
theorem d_Output_init_5 : decode b_Output_init 5 = .ok (.new 9, 3) := by decide +kernel
theorem d_Output_init_8 : decode b_Output_init 8 = .ok (.dup, 1) := by decide +kernel
theorem d_Output_init_9 : decode b_Output_init 9 = .ok (.ldc 11, 2) := by decide +kernel
theorem d_Output_init_11 : decode b_Output_init 11 = .ok (.invokespecial 12, 3) := by decide +kernel
theorem d_Output_init_14 : decode b_Output_init 14 = .ok (.putfield 15, 3) := by decide +kernel
theorem d_Output_init_17 : decode b_Output_init 17 = .ok (.aload_n 0, 1) := by decide +kernel
theorem d_Output_init_18 : decode b_Output_init 18 = .ok (.getstatic 21, 3) := by decide +kernel
theorem d_Output_init_21 : decode b_Output_init 21 = .ok (.putfield 27, 3) := by decide +kernel
theorem d_Output_init_24 : decode b_Output_init 24 = .ok (.aload_n 0, 1) := by decide +kernel
theorem d_Output_init_25 : decode b_Output_init 25 = .ok (.getstatic 21, 3) := by decide +kernel
theorem d_Output_init_28 : decode b_Output_init 28 = .ok (.putfield 30, 3) := by decide +kernel
theorem d_Output_init_31 : decode b_Output_init 31 = .ok (.aload_n 0, 1) := by decide +kernel
theorem d_Output_init_32 : decode b_Output_init 32 = .ok (.iconst 0, 1) := by decide +kernel
theorem d_Output_init_33 : decode b_Output_init 33 = .ok (.putfield 33, 3) := by decide +kernel
theorem d_Output_init_36 : decode b_Output_init 36 = .ok (.aload_n 0, 1) := by decide +kernel
theorem d_Output_init_37 : decode b_Output_init 37 = .ok (.aload_n 1, 1) := by decide +kernel
theorem d_Output_init_38 : decode b_Output_init 38 = .ok (.putfield 37, 3) := by decide +kernel
theorem d_Output_init_41 : decode b_Output_init 41 = .ok (.aload_n 0, 1) := by decide +kernel
theorem d_Output_init_42 : decode b_Output_init 42 = .ok (.aload_n 2, 1) := by decide +kernel
theorem d_Output_init_43 : decode b_Output_init 43 = .ok (.putfield 41, 3) := by decide +kernel
theorem d_Output_init_46 : decode b_Output_init 46 = .ok (.return_, 1) := by decide +kernel
abbrev b_Row_length : ByteArray := prog_9_method_2_code
abbrev y_Row_length : MethodName := ⟨"ReplacementWriter$Row", "length", "()I"⟩
theorem d_Row_length_0 : decode b_Row_length 0 = .ok (.aload_n 0, 1) := by decide +kernel
theorem d_Row_length_1 : decode b_Row_length 1 = .ok (.getfield 13, 3) := by decide +kernel
theorem d_Row_length_4 : decode b_Row_length 4 = .ok (.ireturn, 1) := by decide +kernel
abbrev b_Output_bytes : ByteArray := prog_8_method_3_code
abbrev y_Output_bytes : MethodName := ⟨"ReplacementWriter$Output", "bytes", "()LReplacementWriter$Row;"⟩
theorem d_Output_bytes_0 : decode b_Output_bytes 0 = .ok (.aload_n 0, 1) := by decide +kernel
theorem d_Output_bytes_1 : decode b_Output_bytes 1 = .ok (.getfield 15, 3) := by decide +kernel
theorem d_Output_bytes_4 : decode b_Output_bytes 4 = .ok (.areturn, 1) := by decide +kernel
abbrev b_Groups_greatest : ByteArray := prog_6_method_3_code
abbrev y_Groups_greatest : MethodName := ⟨"ReplacementWriter$Groups", "greatest", "()I"⟩
theorem d_Groups_greatest_0 : decode b_Groups_greatest 0 = .ok (.aload_n 0, 1) := by decide +kernel
theorem d_Groups_greatest_1 : decode b_Groups_greatest 1 = .ok (.getfield 36, 3) := by decide +kernel
theorem d_Groups_greatest_4 : decode b_Groups_greatest 4 = .ok (.ireturn, 1) := by decide +kernel
abbrev b_Groups_namesGiven : ByteArray := prog_6_method_4_code
abbrev y_Groups_namesGiven : MethodName := ⟨"ReplacementWriter$Groups", "namesGiven", "()I"⟩
theorem d_Groups_namesGiven_0 : decode b_Groups_namesGiven 0 = .ok (.aload_n 0, 1) := by decide +kernel
theorem d_Groups_namesGiven_1 : decode b_Groups_namesGiven 1 = .ok (.getfield 40, 3) := by decide +kernel
theorem d_Groups_namesGiven_4 : decode b_Groups_namesGiven 4 = .ok (.ireturn, 1) := by decide +kernel
abbrev b_Row_add : ByteArray := prog_9_method_4_code
abbrev y_Row_add : MethodName := ⟨"ReplacementWriter$Row", "add", "(I)V"⟩
theorem d_Row_add_0 : decode b_Row_add 0 = .ok (.aload_n 0, 1) := by decide +kernel
theorem d_Row_add_1 : decode b_Row_add 1 = .ok (.getfield 13, 3) := by decide +kernel
theorem d_Row_add_4 : decode b_Row_add 4 = .ok (.aload_n 0, 1) := by decide +kernel
theorem d_Row_add_5 : decode b_Row_add 5 = .ok (.getfield 17, 3) := by decide +kernel
theorem d_Row_add_8 : decode b_Row_add 8 = .ok (.if_icmp .lt 4, 3) := by decide +kernel
theorem d_Row_add_11 : decode b_Row_add 11 = .ok (.return_, 1) := by decide +kernel
theorem d_Row_add_12 : decode b_Row_add 12 = .ok (.aload_n 0, 1) := by decide +kernel
theorem d_Row_add_13 : decode b_Row_add 13 = .ok (.getfield 13, 3) := by decide +kernel
theorem d_Row_add_16 : decode b_Row_add 16 = .ok (.aload_n 0, 1) := by decide +kernel
theorem d_Row_add_17 : decode b_Row_add 17 = .ok (.getfield 9, 3) := by decide +kernel
theorem d_Row_add_20 : decode b_Row_add 20 = .ok (.arraylength, 1) := by decide +kernel
theorem d_Row_add_21 : decode b_Row_add 21 = .ok (.if_icmp .lt 21, 3) := by decide +kernel
theorem d_Row_add_24 : decode b_Row_add 24 = .ok (.aload_n 0, 1) := by decide +kernel
theorem d_Row_add_25 : decode b_Row_add 25 = .ok (.aload_n 0, 1) := by decide +kernel
theorem d_Row_add_26 : decode b_Row_add 26 = .ok (.getfield 9, 3) := by decide +kernel
theorem d_Row_add_29 : decode b_Row_add 29 = .ok (.iconst 4, 1) := by decide +kernel
theorem d_Row_add_30 : decode b_Row_add 30 = .ok (.aload_n 0, 1) := by decide +kernel
theorem d_Row_add_31 : decode b_Row_add 31 = .ok (.getfield 9, 3) := by decide +kernel
theorem d_Row_add_34 : decode b_Row_add 34 = .ok (.arraylength, 1) := by decide +kernel
theorem d_Row_add_35 : decode b_Row_add 35 = .ok (.imul, 1) := by decide +kernel
theorem d_Row_add_36 : decode b_Row_add 36 = .ok (.invokestatic 20, 3) := by decide +kernel
theorem d_Row_add_39 : decode b_Row_add 39 = .ok (.putfield 9, 3) := by decide +kernel
theorem d_Row_add_42 : decode b_Row_add 42 = .ok (.aload_n 0, 1) := by decide +kernel
theorem d_Row_add_43 : decode b_Row_add 43 = .ok (.getfield 9, 3) := by decide +kernel
theorem d_Row_add_46 : decode b_Row_add 46 = .ok (.aload_n 0, 1) := by decide +kernel
theorem d_Row_add_47 : decode b_Row_add 47 = .ok (.getfield 13, 3) := by decide +kernel
theorem d_Row_add_50 : decode b_Row_add 50 = .ok (.iload_n 1, 1) := by decide +kernel
theorem d_Row_add_51 : decode b_Row_add 51 = .ok (.i2b, 1) := by decide +kernel
theorem d_Row_add_52 : decode b_Row_add 52 = .ok (.bastore, 1) := by decide +kernel
theorem d_Row_add_53 : decode b_Row_add 53 = .ok (.aload_n 0, 1) := by decide +kernel
theorem d_Row_add_54 : decode b_Row_add 54 = .ok (.dup, 1) := by decide +kernel
theorem d_Row_add_55 : decode b_Row_add 55 = .ok (.getfield 13, 3) := by decide +kernel
theorem d_Row_add_58 : decode b_Row_add 58 = .ok (.iconst 1, 1) := by decide +kernel
theorem d_Row_add_59 : decode b_Row_add 59 = .ok (.iadd, 1) := by decide +kernel
theorem d_Row_add_60 : decode b_Row_add 60 = .ok (.putfield 13, 3) := by decide +kernel
theorem d_Row_add_63 : decode b_Row_add 63 = .ok (.return_, 1) := by decide +kernel
abbrev b_Row_cutTo : ByteArray := prog_9_method_5_code
abbrev y_Row_cutTo : MethodName := ⟨"ReplacementWriter$Row", "cutTo", "(I)V"⟩
theorem d_Row_cutTo_0 : decode b_Row_cutTo 0 = .ok (.iload_n 1, 1) := by decide +kernel
theorem d_Row_cutTo_1 : decode b_Row_cutTo 1 = .ok (.ifCond .lt 16, 3) := by decide +kernel
theorem d_Row_cutTo_4 : decode b_Row_cutTo 4 = .ok (.iload_n 1, 1) := by decide +kernel
theorem d_Row_cutTo_5 : decode b_Row_cutTo 5 = .ok (.aload_n 0, 1) := by decide +kernel
theorem d_Row_cutTo_6 : decode b_Row_cutTo 6 = .ok (.getfield 13, 3) := by decide +kernel
theorem d_Row_cutTo_9 : decode b_Row_cutTo 9 = .ok (.if_icmp .ge 8, 3) := by decide +kernel
theorem d_Row_cutTo_12 : decode b_Row_cutTo 12 = .ok (.aload_n 0, 1) := by decide +kernel
theorem d_Row_cutTo_13 : decode b_Row_cutTo 13 = .ok (.iload_n 1, 1) := by decide +kernel
theorem d_Row_cutTo_14 : decode b_Row_cutTo 14 = .ok (.putfield 13, 3) := by decide +kernel
theorem d_Row_cutTo_17 : decode b_Row_cutTo 17 = .ok (.return_, 1) := by decide +kernel
abbrev b_Groups_startAnew : ByteArray := prog_6_method_2_code
abbrev y_Groups_startAnew : MethodName := ⟨"ReplacementWriter$Groups", "startAnew", "(I)V"⟩
theorem d_Groups_startAnew_0 : decode b_Groups_startAnew 0 = .ok (.aload_n 0, 1) := by decide +kernel
theorem d_Groups_startAnew_1 : decode b_Groups_startAnew 1 = .ok (.iload_n 1, 1) := by decide +kernel
theorem d_Groups_startAnew_2 : decode b_Groups_startAnew 2 = .ok (.putfield 36, 3) := by decide +kernel
theorem d_Groups_startAnew_5 : decode b_Groups_startAnew 5 = .ok (.iconst 0, 1) := by decide +kernel
theorem d_Groups_startAnew_6 : decode b_Groups_startAnew 6 = .ok (.istore_n 2, 1) := by decide +kernel
theorem d_Groups_startAnew_7 : decode b_Groups_startAnew 7 = .ok (.iload_n 2, 1) := by decide +kernel
theorem d_Groups_startAnew_8 : decode b_Groups_startAnew 8 = .ok (.aload_n 0, 1) := by decide +kernel
theorem d_Groups_startAnew_9 : decode b_Groups_startAnew 9 = .ok (.getfield 17, 3) := by decide +kernel
theorem d_Groups_startAnew_12 : decode b_Groups_startAnew 12 = .ok (.arraylength, 1) := by decide +kernel
theorem d_Groups_startAnew_13 : decode b_Groups_startAnew 13 = .ok (.if_icmp .ge 16, 3) := by decide +kernel
theorem d_Groups_startAnew_16 : decode b_Groups_startAnew 16 = .ok (.aload_n 0, 1) := by decide +kernel
theorem d_Groups_startAnew_17 : decode b_Groups_startAnew 17 = .ok (.getfield 17, 3) := by decide +kernel
theorem d_Groups_startAnew_20 : decode b_Groups_startAnew 20 = .ok (.iload_n 2, 1) := by decide +kernel
theorem d_Groups_startAnew_21 : decode b_Groups_startAnew 21 = .ok (.iconst 0, 1) := by decide +kernel
theorem d_Groups_startAnew_22 : decode b_Groups_startAnew 22 = .ok (.bastore, 1) := by decide +kernel
theorem d_Groups_startAnew_23 : decode b_Groups_startAnew 23 = .ok (.iinc 2 1, 3) := by decide +kernel
theorem d_Groups_startAnew_26 : decode b_Groups_startAnew 26 = .ok (.goto (-19), 3) := by decide +kernel
theorem d_Groups_startAnew_29 : decode b_Groups_startAnew 29 = .ok (.aload_n 0, 1) := by decide +kernel
theorem d_Groups_startAnew_30 : decode b_Groups_startAnew 30 = .ok (.getfield 24, 3) := by decide +kernel
theorem d_Groups_startAnew_33 : decode b_Groups_startAnew 33 = .ok (.invokevirtual 43, 3) := by decide +kernel
theorem d_Groups_startAnew_36 : decode b_Groups_startAnew 36 = .ok (.aload_n 0, 1) := by decide +kernel
theorem d_Groups_startAnew_37 : decode b_Groups_startAnew 37 = .ok (.iconst 0, 1) := by decide +kernel
theorem d_Groups_startAnew_38 : decode b_Groups_startAnew 38 = .ok (.putfield 40, 3) := by decide +kernel
theorem d_Groups_startAnew_41 : decode b_Groups_startAnew 41 = .ok (.aload_n 0, 1) := by decide +kernel
theorem d_Groups_startAnew_42 : decode b_Groups_startAnew 42 = .ok (.getfield 32, 3) := by decide +kernel
theorem d_Groups_startAnew_45 : decode b_Groups_startAnew 45 = .ok (.iconst 0, 1) := by decide +kernel
theorem d_Groups_startAnew_46 : decode b_Groups_startAnew 46 = .ok (.invokevirtual 46, 3) := by decide +kernel
theorem d_Groups_startAnew_49 : decode b_Groups_startAnew 49 = .ok (.return_, 1) := by decide +kernel
abbrev b_Groups_has : ByteArray := prog_6_method_6_code
abbrev y_Groups_has : MethodName := ⟨"ReplacementWriter$Groups", "has", "(I)Z"⟩
theorem d_Groups_has_0 : decode b_Groups_has 0 = .ok (.iload_n 1, 1) := by decide +kernel
theorem d_Groups_has_1 : decode b_Groups_has 1 = .ok (.ifCond .lt 15, 3) := by decide +kernel
theorem d_Groups_has_4 : decode b_Groups_has 4 = .ok (.iload_n 1, 1) := by decide +kernel
theorem d_Groups_has_5 : decode b_Groups_has 5 = .ok (.aload_n 0, 1) := by decide +kernel
theorem d_Groups_has_6 : decode b_Groups_has 6 = .ok (.getfield 36, 3) := by decide +kernel
theorem d_Groups_has_9 : decode b_Groups_has 9 = .ok (.if_icmp .gt 7, 3) := by decide +kernel
theorem d_Groups_has_12 : decode b_Groups_has 12 = .ok (.iconst 1, 1) := by decide +kernel
theorem d_Groups_has_13 : decode b_Groups_has 13 = .ok (.goto 4, 3) := by decide +kernel
theorem d_Groups_has_16 : decode b_Groups_has 16 = .ok (.iconst 0, 1) := by decide +kernel
theorem d_Groups_has_17 : decode b_Groups_has 17 = .ok (.ireturn, 1) := by decide +kernel
abbrev b_Encoding_firstBad : ByteArray := prog_4_method_6_code
abbrev y_Encoding_firstBad : MethodName := ⟨"ReplacementWriter$Encoding", "firstBad", "(LReplacementWriter$Row;)I"⟩
theorem d_Encoding_firstBad_0 : decode b_Encoding_firstBad 0 = .ok (.aload_n 0, 1) := by decide +kernel
theorem d_Encoding_firstBad_1 : decode b_Encoding_firstBad 1 = .ok (.getfield 7, 3) := by decide +kernel
theorem d_Encoding_firstBad_4 : decode b_Encoding_firstBad 4 = .ok (.ifCond .ne 5, 3) := by decide +kernel
theorem d_Encoding_firstBad_7 : decode b_Encoding_firstBad 7 = .ok (.iconst (-1), 1) := by decide +kernel
theorem d_Encoding_firstBad_8 : decode b_Encoding_firstBad 8 = .ok (.ireturn, 1) := by decide +kernel
theorem d_Encoding_firstBad_9 : decode b_Encoding_firstBad 9 = .ok (.iconst 0, 1) := by decide +kernel
theorem d_Encoding_firstBad_10 : decode b_Encoding_firstBad 10 = .ok (.istore_n 2, 1) := by decide +kernel
theorem d_Encoding_firstBad_11 : decode b_Encoding_firstBad 11 = .ok (.iload_n 2, 1) := by decide +kernel
theorem d_Encoding_firstBad_12 : decode b_Encoding_firstBad 12 = .ok (.aload_n 1, 1) := by decide +kernel
theorem d_Encoding_firstBad_13 : decode b_Encoding_firstBad 13 = .ok (.invokevirtual 31, 3) := by decide +kernel
theorem d_Encoding_firstBad_16 : decode b_Encoding_firstBad 16 = .ok (.if_icmp .ge 33, 3) := by decide +kernel
theorem d_Encoding_firstBad_19 : decode b_Encoding_firstBad 19 = .ok (.aload_n 0, 1) := by decide +kernel
theorem d_Encoding_firstBad_20 : decode b_Encoding_firstBad 20 = .ok (.aload_n 1, 1) := by decide +kernel
theorem d_Encoding_firstBad_21 : decode b_Encoding_firstBad 21 = .ok (.iload_n 2, 1) := by decide +kernel
theorem d_Encoding_firstBad_22 : decode b_Encoding_firstBad 22 = .ok (.invokevirtual 35, 3) := by decide +kernel
theorem d_Encoding_firstBad_25 : decode b_Encoding_firstBad 25 = .ok (.ifCond .ne 5, 3) := by decide +kernel
theorem d_Encoding_firstBad_28 : decode b_Encoding_firstBad 28 = .ok (.iload_n 2, 1) := by decide +kernel
theorem d_Encoding_firstBad_29 : decode b_Encoding_firstBad 29 = .ok (.ireturn, 1) := by decide +kernel
theorem d_Encoding_firstBad_30 : decode b_Encoding_firstBad 30 = .ok (.iload_n 2, 1) := by decide +kernel
theorem d_Encoding_firstBad_31 : decode b_Encoding_firstBad 31 = .ok (.iconst 1, 1) := by decide +kernel
theorem d_Encoding_firstBad_32 : decode b_Encoding_firstBad 32 = .ok (.aload_n 0, 1) := by decide +kernel
theorem d_Encoding_firstBad_33 : decode b_Encoding_firstBad 33 = .ok (.aload_n 1, 1) := by decide +kernel
theorem d_Encoding_firstBad_34 : decode b_Encoding_firstBad 34 = .ok (.iload_n 2, 1) := by decide +kernel
theorem d_Encoding_firstBad_35 : decode b_Encoding_firstBad 35 = .ok (.invokevirtual 22, 3) := by decide +kernel
theorem d_Encoding_firstBad_38 : decode b_Encoding_firstBad 38 = .ok (.invokevirtual 28, 3) := by decide +kernel
theorem d_Encoding_firstBad_41 : decode b_Encoding_firstBad 41 = .ok (.invokestatic 39, 3) := by decide +kernel
theorem d_Encoding_firstBad_44 : decode b_Encoding_firstBad 44 = .ok (.iadd, 1) := by decide +kernel
theorem d_Encoding_firstBad_45 : decode b_Encoding_firstBad 45 = .ok (.istore_n 2, 1) := by decide +kernel
theorem d_Encoding_firstBad_46 : decode b_Encoding_firstBad 46 = .ok (.goto (-35), 3) := by decide +kernel
theorem d_Encoding_firstBad_49 : decode b_Encoding_firstBad 49 = .ok (.iconst (-1), 1) := by decide +kernel
theorem d_Encoding_firstBad_50 : decode b_Encoding_firstBad 50 = .ok (.ireturn, 1) := by decide +kernel
abbrev b_Encoding_isGood : ByteArray := prog_4_method_7_code
abbrev y_Encoding_isGood : MethodName := ⟨"ReplacementWriter$Encoding", "isGood", "(LReplacementWriter$Row;I)Z"⟩
theorem d_Encoding_isGood_0 : decode b_Encoding_isGood 0 = .ok (.aload_n 0, 1) := by decide +kernel
theorem d_Encoding_isGood_1 : decode b_Encoding_isGood 1 = .ok (.aload_n 1, 1) := by decide +kernel
theorem d_Encoding_isGood_2 : decode b_Encoding_isGood 2 = .ok (.iload_n 2, 1) := by decide +kernel
theorem d_Encoding_isGood_3 : decode b_Encoding_isGood 3 = .ok (.invokevirtual 22, 3) := by decide +kernel
theorem d_Encoding_isGood_6 : decode b_Encoding_isGood 6 = .ok (.invokevirtual 28, 3) := by decide +kernel
theorem d_Encoding_isGood_9 : decode b_Encoding_isGood 9 = .ok (.istore_n 3, 1) := by decide +kernel
theorem d_Encoding_isGood_10 : decode b_Encoding_isGood 10 = .ok (.iload_n 3, 1) := by decide +kernel
theorem d_Encoding_isGood_11 : decode b_Encoding_isGood 11 = .ok (.ifCond .ne 5, 3) := by decide +kernel
theorem d_Encoding_isGood_14 : decode b_Encoding_isGood 14 = .ok (.iconst 0, 1) := by decide +kernel
theorem d_Encoding_isGood_15 : decode b_Encoding_isGood 15 = .ok (.ireturn, 1) := by decide +kernel
theorem d_Encoding_isGood_16 : decode b_Encoding_isGood 16 = .ok (.iconst 1, 1) := by decide +kernel
theorem d_Encoding_isGood_17 : decode b_Encoding_isGood 17 = .ok (.istore 4, 2) := by decide +kernel
theorem d_Encoding_isGood_19 : decode b_Encoding_isGood 19 = .ok (.iload 4, 2) := by decide +kernel
theorem d_Encoding_isGood_21 : decode b_Encoding_isGood 21 = .ok (.iload_n 3, 1) := by decide +kernel
theorem d_Encoding_isGood_22 : decode b_Encoding_isGood 22 = .ok (.if_icmp .ge 29, 3) := by decide +kernel
theorem d_Encoding_isGood_25 : decode b_Encoding_isGood 25 = .ok (.aload_n 1, 1) := by decide +kernel
theorem d_Encoding_isGood_26 : decode b_Encoding_isGood 26 = .ok (.iload_n 2, 1) := by decide +kernel
theorem d_Encoding_isGood_27 : decode b_Encoding_isGood 27 = .ok (.iload 4, 2) := by decide +kernel
theorem d_Encoding_isGood_29 : decode b_Encoding_isGood 29 = .ok (.iadd, 1) := by decide +kernel
theorem d_Encoding_isGood_30 : decode b_Encoding_isGood 30 = .ok (.invokevirtual 22, 3) := by decide +kernel
theorem d_Encoding_isGood_33 : decode b_Encoding_isGood 33 = .ok (.sipush 192, 3) := by decide +kernel
theorem d_Encoding_isGood_36 : decode b_Encoding_isGood 36 = .ok (.iand, 1) := by decide +kernel
theorem d_Encoding_isGood_37 : decode b_Encoding_isGood 37 = .ok (.sipush 128, 3) := by decide +kernel
theorem d_Encoding_isGood_40 : decode b_Encoding_isGood 40 = .ok (.if_icmp .eq 5, 3) := by decide +kernel
theorem d_Encoding_isGood_43 : decode b_Encoding_isGood 43 = .ok (.iconst 0, 1) := by decide +kernel
theorem d_Encoding_isGood_44 : decode b_Encoding_isGood 44 = .ok (.ireturn, 1) := by decide +kernel
theorem d_Encoding_isGood_45 : decode b_Encoding_isGood 45 = .ok (.iinc 4 1, 3) := by decide +kernel
theorem d_Encoding_isGood_48 : decode b_Encoding_isGood 48 = .ok (.goto (-29), 3) := by decide +kernel
theorem d_Encoding_isGood_51 : decode b_Encoding_isGood 51 = .ok (.aload_n 0, 1) := by decide +kernel
theorem d_Encoding_isGood_52 : decode b_Encoding_isGood 52 = .ok (.aload_n 1, 1) := by decide +kernel
theorem d_Encoding_isGood_53 : decode b_Encoding_isGood 53 = .ok (.iload_n 2, 1) := by decide +kernel
theorem d_Encoding_isGood_54 : decode b_Encoding_isGood 54 = .ok (.invokevirtual 45, 3) := by decide +kernel
theorem d_Encoding_isGood_57 : decode b_Encoding_isGood 57 = .ok (.istore 4, 2) := by decide +kernel
theorem d_Encoding_isGood_59 : decode b_Encoding_isGood 59 = .ok (.aload_n 0, 1) := by decide +kernel
theorem d_Encoding_isGood_60 : decode b_Encoding_isGood 60 = .ok (.iload 4, 2) := by decide +kernel
theorem d_Encoding_isGood_62 : decode b_Encoding_isGood 62 = .ok (.i2l, 1) := by decide +kernel
theorem d_Encoding_isGood_63 : decode b_Encoding_isGood 63 = .ok (.invokevirtual 49, 3) := by decide +kernel
theorem d_Encoding_isGood_66 : decode b_Encoding_isGood 66 = .ok (.ifCond .eq 17, 3) := by decide +kernel
theorem d_Encoding_isGood_69 : decode b_Encoding_isGood 69 = .ok (.aload_n 0, 1) := by decide +kernel
theorem d_Encoding_isGood_70 : decode b_Encoding_isGood 70 = .ok (.iload 4, 2) := by decide +kernel
theorem d_Encoding_isGood_72 : decode b_Encoding_isGood 72 = .ok (.invokevirtual 53, 3) := by decide +kernel
theorem d_Encoding_isGood_75 : decode b_Encoding_isGood 75 = .ok (.iload_n 3, 1) := by decide +kernel
theorem d_Encoding_isGood_76 : decode b_Encoding_isGood 76 = .ok (.if_icmp .ne 7, 3) := by decide +kernel
theorem d_Encoding_isGood_79 : decode b_Encoding_isGood 79 = .ok (.iconst 1, 1) := by decide +kernel
theorem d_Encoding_isGood_80 : decode b_Encoding_isGood 80 = .ok (.goto 4, 3) := by decide +kernel
theorem d_Encoding_isGood_83 : decode b_Encoding_isGood 83 = .ok (.iconst 0, 1) := by decide +kernel
theorem d_Encoding_isGood_84 : decode b_Encoding_isGood 84 = .ok (.ireturn, 1) := by decide +kernel
abbrev b_Row_at : ByteArray := prog_9_method_3_code
abbrev y_Row_at : MethodName := ⟨"ReplacementWriter$Row", "at", "(I)I"⟩
theorem d_Row_at_0 : decode b_Row_at 0 = .ok (.iload_n 1, 1) := by decide +kernel
theorem d_Row_at_1 : decode b_Row_at 1 = .ok (.ifCond .lt 24, 3) := by decide +kernel
theorem d_Row_at_4 : decode b_Row_at 4 = .ok (.iload_n 1, 1) := by decide +kernel
theorem d_Row_at_5 : decode b_Row_at 5 = .ok (.aload_n 0, 1) := by decide +kernel
theorem d_Row_at_6 : decode b_Row_at 6 = .ok (.getfield 13, 3) := by decide +kernel
theorem d_Row_at_9 : decode b_Row_at 9 = .ok (.if_icmp .ge 16, 3) := by decide +kernel
theorem d_Row_at_12 : decode b_Row_at 12 = .ok (.aload_n 0, 1) := by decide +kernel
theorem d_Row_at_13 : decode b_Row_at 13 = .ok (.getfield 9, 3) := by decide +kernel
theorem d_Row_at_16 : decode b_Row_at 16 = .ok (.iload_n 1, 1) := by decide +kernel
theorem d_Row_at_17 : decode b_Row_at 17 = .ok (.baload, 1) := by decide +kernel
theorem d_Row_at_18 : decode b_Row_at 18 = .ok (.sipush 255, 3) := by decide +kernel
theorem d_Row_at_21 : decode b_Row_at 21 = .ok (.iand, 1) := by decide +kernel
theorem d_Row_at_22 : decode b_Row_at 22 = .ok (.goto 4, 3) := by decide +kernel
theorem d_Row_at_25 : decode b_Row_at 25 = .ok (.iconst (-1), 1) := by decide +kernel
theorem d_Row_at_26 : decode b_Row_at 26 = .ok (.ireturn, 1) := by decide +kernel
abbrev b_Encoding_lengthBehind : ByteArray := prog_4_method_4_code
abbrev y_Encoding_lengthBehind : MethodName := ⟨"ReplacementWriter$Encoding", "lengthBehind", "(I)I"⟩
theorem d_Encoding_lengthBehind_0 : decode b_Encoding_lengthBehind 0 = .ok (.aload_n 0, 1) := by decide +kernel
theorem d_Encoding_lengthBehind_1 : decode b_Encoding_lengthBehind 1 = .ok (.getfield 7, 3) := by decide +kernel
theorem d_Encoding_lengthBehind_4 : decode b_Encoding_lengthBehind 4 = .ok (.ifCond .eq 10, 3) := by decide +kernel
theorem d_Encoding_lengthBehind_7 : decode b_Encoding_lengthBehind 7 = .ok (.iload_n 1, 1) := by decide +kernel
theorem d_Encoding_lengthBehind_8 : decode b_Encoding_lengthBehind 8 = .ok (.sipush 128, 3) := by decide +kernel
theorem d_Encoding_lengthBehind_11 : decode b_Encoding_lengthBehind 11 = .ok (.if_icmp .ge 5, 3) := by decide +kernel
theorem d_Encoding_lengthBehind_14 : decode b_Encoding_lengthBehind 14 = .ok (.iconst 1, 1) := by decide +kernel
theorem d_Encoding_lengthBehind_15 : decode b_Encoding_lengthBehind 15 = .ok (.ireturn, 1) := by decide +kernel
theorem d_Encoding_lengthBehind_16 : decode b_Encoding_lengthBehind 16 = .ok (.iload_n 1, 1) := by decide +kernel
theorem d_Encoding_lengthBehind_17 : decode b_Encoding_lengthBehind 17 = .ok (.sipush 194, 3) := by decide +kernel
theorem d_Encoding_lengthBehind_20 : decode b_Encoding_lengthBehind 20 = .ok (.if_icmp .lt 10, 3) := by decide +kernel
theorem d_Encoding_lengthBehind_23 : decode b_Encoding_lengthBehind 23 = .ok (.iload_n 1, 1) := by decide +kernel
theorem d_Encoding_lengthBehind_24 : decode b_Encoding_lengthBehind 24 = .ok (.sipush 244, 3) := by decide +kernel
theorem d_Encoding_lengthBehind_27 : decode b_Encoding_lengthBehind 27 = .ok (.if_icmp .le 5, 3) := by decide +kernel
theorem d_Encoding_lengthBehind_30 : decode b_Encoding_lengthBehind 30 = .ok (.iconst 0, 1) := by decide +kernel
theorem d_Encoding_lengthBehind_31 : decode b_Encoding_lengthBehind 31 = .ok (.ireturn, 1) := by decide +kernel
theorem d_Encoding_lengthBehind_32 : decode b_Encoding_lengthBehind 32 = .ok (.iload_n 1, 1) := by decide +kernel
theorem d_Encoding_lengthBehind_33 : decode b_Encoding_lengthBehind 33 = .ok (.sipush 224, 3) := by decide +kernel
theorem d_Encoding_lengthBehind_36 : decode b_Encoding_lengthBehind 36 = .ok (.if_icmp .ge 5, 3) := by decide +kernel
theorem d_Encoding_lengthBehind_39 : decode b_Encoding_lengthBehind 39 = .ok (.iconst 2, 1) := by decide +kernel
theorem d_Encoding_lengthBehind_40 : decode b_Encoding_lengthBehind 40 = .ok (.ireturn, 1) := by decide +kernel
theorem d_Encoding_lengthBehind_41 : decode b_Encoding_lengthBehind 41 = .ok (.iload_n 1, 1) := by decide +kernel
theorem d_Encoding_lengthBehind_42 : decode b_Encoding_lengthBehind 42 = .ok (.sipush 240, 3) := by decide +kernel
theorem d_Encoding_lengthBehind_45 : decode b_Encoding_lengthBehind 45 = .ok (.if_icmp .ge 7, 3) := by decide +kernel
theorem d_Encoding_lengthBehind_48 : decode b_Encoding_lengthBehind 48 = .ok (.iconst 3, 1) := by decide +kernel
theorem d_Encoding_lengthBehind_49 : decode b_Encoding_lengthBehind 49 = .ok (.goto 4, 3) := by decide +kernel
theorem d_Encoding_lengthBehind_52 : decode b_Encoding_lengthBehind 52 = .ok (.iconst 4, 1) := by decide +kernel
theorem d_Encoding_lengthBehind_53 : decode b_Encoding_lengthBehind 53 = .ok (.ireturn, 1) := by decide +kernel
abbrev b_Encoding_characterAt : ByteArray := prog_4_method_5_code
abbrev y_Encoding_characterAt : MethodName := ⟨"ReplacementWriter$Encoding", "characterAt", "(LReplacementWriter$Row;I)I"⟩
theorem d_Encoding_characterAt_0 : decode b_Encoding_characterAt 0 = .ok (.aload_n 1, 1) := by decide +kernel
theorem d_Encoding_characterAt_1 : decode b_Encoding_characterAt 1 = .ok (.iload_n 2, 1) := by decide +kernel
theorem d_Encoding_characterAt_2 : decode b_Encoding_characterAt 2 = .ok (.invokevirtual 22, 3) := by decide +kernel
theorem d_Encoding_characterAt_5 : decode b_Encoding_characterAt 5 = .ok (.istore_n 3, 1) := by decide +kernel
theorem d_Encoding_characterAt_6 : decode b_Encoding_characterAt 6 = .ok (.aload_n 0, 1) := by decide +kernel
theorem d_Encoding_characterAt_7 : decode b_Encoding_characterAt 7 = .ok (.iload_n 3, 1) := by decide +kernel
theorem d_Encoding_characterAt_8 : decode b_Encoding_characterAt 8 = .ok (.invokevirtual 28, 3) := by decide +kernel
theorem d_Encoding_characterAt_11 : decode b_Encoding_characterAt 11 = .ok (.istore 4, 2) := by decide +kernel
theorem d_Encoding_characterAt_13 : decode b_Encoding_characterAt 13 = .ok (.iload 4, 2) := by decide +kernel
theorem d_Encoding_characterAt_15 : decode b_Encoding_characterAt 15 = .ok (.iconst 2, 1) := by decide +kernel
theorem d_Encoding_characterAt_16 : decode b_Encoding_characterAt 16 = .ok (.if_icmp .ge 5, 3) := by decide +kernel
theorem d_Encoding_characterAt_19 : decode b_Encoding_characterAt 19 = .ok (.iload_n 3, 1) := by decide +kernel
theorem d_Encoding_characterAt_20 : decode b_Encoding_characterAt 20 = .ok (.ireturn, 1) := by decide +kernel
theorem d_Encoding_characterAt_21 : decode b_Encoding_characterAt 21 = .ok (.iload_n 3, 1) := by decide +kernel
theorem d_Encoding_characterAt_22 : decode b_Encoding_characterAt 22 = .ok (.bipush 127, 2) := by decide +kernel
theorem d_Encoding_characterAt_24 : decode b_Encoding_characterAt 24 = .ok (.iload 4, 2) := by decide +kernel
theorem d_Encoding_characterAt_26 : decode b_Encoding_characterAt 26 = .ok (.ishr, 1) := by decide +kernel
theorem d_Encoding_characterAt_27 : decode b_Encoding_characterAt 27 = .ok (.iand, 1) := by decide +kernel
theorem d_Encoding_characterAt_28 : decode b_Encoding_characterAt 28 = .ok (.istore 5, 2) := by decide +kernel
theorem d_Encoding_characterAt_30 : decode b_Encoding_characterAt 30 = .ok (.iconst 1, 1) := by decide +kernel
theorem d_Encoding_characterAt_31 : decode b_Encoding_characterAt 31 = .ok (.istore 6, 2) := by decide +kernel
theorem d_Encoding_characterAt_33 : decode b_Encoding_characterAt 33 = .ok (.iload 6, 2) := by decide +kernel
theorem d_Encoding_characterAt_35 : decode b_Encoding_characterAt 35 = .ok (.iload 4, 2) := by decide +kernel
theorem d_Encoding_characterAt_37 : decode b_Encoding_characterAt 37 = .ok (.if_icmp .ge 28, 3) := by decide +kernel
theorem d_Encoding_characterAt_40 : decode b_Encoding_characterAt 40 = .ok (.iload 5, 2) := by decide +kernel
theorem d_Encoding_characterAt_42 : decode b_Encoding_characterAt 42 = .ok (.bipush 6, 2) := by decide +kernel
theorem d_Encoding_characterAt_44 : decode b_Encoding_characterAt 44 = .ok (.ishl, 1) := by decide +kernel
theorem d_Encoding_characterAt_45 : decode b_Encoding_characterAt 45 = .ok (.aload_n 1, 1) := by decide +kernel
theorem d_Encoding_characterAt_46 : decode b_Encoding_characterAt 46 = .ok (.iload_n 2, 1) := by decide +kernel
theorem d_Encoding_characterAt_47 : decode b_Encoding_characterAt 47 = .ok (.iload 6, 2) := by decide +kernel
theorem d_Encoding_characterAt_49 : decode b_Encoding_characterAt 49 = .ok (.iadd, 1) := by decide +kernel
theorem d_Encoding_characterAt_50 : decode b_Encoding_characterAt 50 = .ok (.invokevirtual 22, 3) := by decide +kernel
theorem d_Encoding_characterAt_53 : decode b_Encoding_characterAt 53 = .ok (.bipush 63, 2) := by decide +kernel
theorem d_Encoding_characterAt_55 : decode b_Encoding_characterAt 55 = .ok (.iand, 1) := by decide +kernel
theorem d_Encoding_characterAt_56 : decode b_Encoding_characterAt 56 = .ok (.ior, 1) := by decide +kernel
theorem d_Encoding_characterAt_57 : decode b_Encoding_characterAt 57 = .ok (.istore 5, 2) := by decide +kernel
theorem d_Encoding_characterAt_59 : decode b_Encoding_characterAt 59 = .ok (.iinc 6 1, 3) := by decide +kernel
theorem d_Encoding_characterAt_62 : decode b_Encoding_characterAt 62 = .ok (.goto (-29), 3) := by decide +kernel
theorem d_Encoding_characterAt_65 : decode b_Encoding_characterAt 65 = .ok (.iload 5, 2) := by decide +kernel
theorem d_Encoding_characterAt_67 : decode b_Encoding_characterAt 67 = .ok (.ireturn, 1) := by decide +kernel
abbrev b_Encoding_exists : ByteArray := prog_4_method_2_code
abbrev y_Encoding_exists : MethodName := ⟨"ReplacementWriter$Encoding", "exists", "(J)Z"⟩
theorem d_Encoding_exists_0 : decode b_Encoding_exists 0 = .ok (.aload_n 0, 1) := by decide +kernel
theorem d_Encoding_exists_1 : decode b_Encoding_exists 1 = .ok (.getfield 7, 3) := by decide +kernel
theorem d_Encoding_exists_4 : decode b_Encoding_exists 4 = .ok (.ifCond .ne 23, 3) := by decide +kernel
theorem d_Encoding_exists_7 : decode b_Encoding_exists 7 = .ok (.lload_n 1, 1) := by decide +kernel
theorem d_Encoding_exists_8 : decode b_Encoding_exists 8 = .ok (.lconst 0, 1) := by decide +kernel
theorem d_Encoding_exists_9 : decode b_Encoding_exists 9 = .ok (.lcmp, 1) := by decide +kernel
theorem d_Encoding_exists_10 : decode b_Encoding_exists 10 = .ok (.ifCond .lt 15, 3) := by decide +kernel
theorem d_Encoding_exists_13 : decode b_Encoding_exists 13 = .ok (.lload_n 1, 1) := by decide +kernel
theorem d_Encoding_exists_14 : decode b_Encoding_exists 14 = .ok (.ldc2_w 13, 3) := by decide +kernel
theorem d_Encoding_exists_17 : decode b_Encoding_exists 17 = .ok (.lcmp, 1) := by decide +kernel
theorem d_Encoding_exists_18 : decode b_Encoding_exists 18 = .ok (.ifCond .gt 7, 3) := by decide +kernel
theorem d_Encoding_exists_21 : decode b_Encoding_exists 21 = .ok (.iconst 1, 1) := by decide +kernel
theorem d_Encoding_exists_22 : decode b_Encoding_exists 22 = .ok (.goto 4, 3) := by decide +kernel
theorem d_Encoding_exists_25 : decode b_Encoding_exists 25 = .ok (.iconst 0, 1) := by decide +kernel
theorem d_Encoding_exists_26 : decode b_Encoding_exists 26 = .ok (.ireturn, 1) := by decide +kernel
theorem d_Encoding_exists_27 : decode b_Encoding_exists 27 = .ok (.lload_n 1, 1) := by decide +kernel
theorem d_Encoding_exists_28 : decode b_Encoding_exists 28 = .ok (.lconst 0, 1) := by decide +kernel
theorem d_Encoding_exists_29 : decode b_Encoding_exists 29 = .ok (.lcmp, 1) := by decide +kernel
theorem d_Encoding_exists_30 : decode b_Encoding_exists 30 = .ok (.ifCond .lt 31, 3) := by decide +kernel
theorem d_Encoding_exists_33 : decode b_Encoding_exists 33 = .ok (.lload_n 1, 1) := by decide +kernel
theorem d_Encoding_exists_34 : decode b_Encoding_exists 34 = .ok (.ldc2_w 15, 3) := by decide +kernel
theorem d_Encoding_exists_37 : decode b_Encoding_exists 37 = .ok (.lcmp, 1) := by decide +kernel
theorem d_Encoding_exists_38 : decode b_Encoding_exists 38 = .ok (.ifCond .gt 23, 3) := by decide +kernel
theorem d_Encoding_exists_41 : decode b_Encoding_exists 41 = .ok (.lload_n 1, 1) := by decide +kernel
theorem d_Encoding_exists_42 : decode b_Encoding_exists 42 = .ok (.ldc2_w 17, 3) := by decide +kernel
theorem d_Encoding_exists_45 : decode b_Encoding_exists 45 = .ok (.lcmp, 1) := by decide +kernel
theorem d_Encoding_exists_46 : decode b_Encoding_exists 46 = .ok (.ifCond .lt 11, 3) := by decide +kernel
theorem d_Encoding_exists_49 : decode b_Encoding_exists 49 = .ok (.lload_n 1, 1) := by decide +kernel
theorem d_Encoding_exists_50 : decode b_Encoding_exists 50 = .ok (.ldc2_w 19, 3) := by decide +kernel
theorem d_Encoding_exists_53 : decode b_Encoding_exists 53 = .ok (.lcmp, 1) := by decide +kernel
theorem d_Encoding_exists_54 : decode b_Encoding_exists 54 = .ok (.ifCond .le 7, 3) := by decide +kernel
theorem d_Encoding_exists_57 : decode b_Encoding_exists 57 = .ok (.iconst 1, 1) := by decide +kernel
theorem d_Encoding_exists_58 : decode b_Encoding_exists 58 = .ok (.goto 4, 3) := by decide +kernel
theorem d_Encoding_exists_61 : decode b_Encoding_exists 61 = .ok (.iconst 0, 1) := by decide +kernel
theorem d_Encoding_exists_62 : decode b_Encoding_exists 62 = .ok (.ireturn, 1) := by decide +kernel
abbrev b_Encoding_lengthOf : ByteArray := prog_4_method_3_code
abbrev y_Encoding_lengthOf : MethodName := ⟨"ReplacementWriter$Encoding", "lengthOf", "(I)I"⟩
theorem d_Encoding_lengthOf_0 : decode b_Encoding_lengthOf 0 = .ok (.aload_n 0, 1) := by decide +kernel
theorem d_Encoding_lengthOf_1 : decode b_Encoding_lengthOf 1 = .ok (.getfield 7, 3) := by decide +kernel
theorem d_Encoding_lengthOf_4 : decode b_Encoding_lengthOf 4 = .ok (.ifCond .eq 10, 3) := by decide +kernel
theorem d_Encoding_lengthOf_7 : decode b_Encoding_lengthOf 7 = .ok (.iload_n 1, 1) := by decide +kernel
theorem d_Encoding_lengthOf_8 : decode b_Encoding_lengthOf 8 = .ok (.sipush 128, 3) := by decide +kernel
theorem d_Encoding_lengthOf_11 : decode b_Encoding_lengthOf 11 = .ok (.if_icmp .ge 5, 3) := by decide +kernel
theorem d_Encoding_lengthOf_14 : decode b_Encoding_lengthOf 14 = .ok (.iconst 1, 1) := by decide +kernel
theorem d_Encoding_lengthOf_15 : decode b_Encoding_lengthOf 15 = .ok (.ireturn, 1) := by decide +kernel
theorem d_Encoding_lengthOf_16 : decode b_Encoding_lengthOf 16 = .ok (.iload_n 1, 1) := by decide +kernel
theorem d_Encoding_lengthOf_17 : decode b_Encoding_lengthOf 17 = .ok (.sipush 2048, 3) := by decide +kernel
theorem d_Encoding_lengthOf_20 : decode b_Encoding_lengthOf 20 = .ok (.if_icmp .ge 5, 3) := by decide +kernel
theorem d_Encoding_lengthOf_23 : decode b_Encoding_lengthOf 23 = .ok (.iconst 2, 1) := by decide +kernel
theorem d_Encoding_lengthOf_24 : decode b_Encoding_lengthOf 24 = .ok (.ireturn, 1) := by decide +kernel
theorem d_Encoding_lengthOf_25 : decode b_Encoding_lengthOf 25 = .ok (.iload_n 1, 1) := by decide +kernel
theorem d_Encoding_lengthOf_26 : decode b_Encoding_lengthOf 26 = .ok (.ldc 21, 2) := by decide +kernel
theorem d_Encoding_lengthOf_28 : decode b_Encoding_lengthOf 28 = .ok (.if_icmp .ge 7, 3) := by decide +kernel
theorem d_Encoding_lengthOf_31 : decode b_Encoding_lengthOf 31 = .ok (.iconst 3, 1) := by decide +kernel
theorem d_Encoding_lengthOf_32 : decode b_Encoding_lengthOf 32 = .ok (.goto 4, 3) := by decide +kernel
theorem d_Encoding_lengthOf_35 : decode b_Encoding_lengthOf 35 = .ok (.iconst 4, 1) := by decide +kernel
theorem d_Encoding_lengthOf_36 : decode b_Encoding_lengthOf 36 = .ok (.ireturn, 1) := by decide +kernel
abbrev b_Groups_hold : ByteArray := prog_6_method_7_code
abbrev y_Groups_hold : MethodName := ⟨"ReplacementWriter$Groups", "hold", "(ILReplacementWriter$Row;)V"⟩
theorem d_Groups_hold_0 : decode b_Groups_hold 0 = .ok (.aload_n 0, 1) := by decide +kernel
theorem d_Groups_hold_1 : decode b_Groups_hold 1 = .ok (.getfield 11, 3) := by decide +kernel
theorem d_Groups_hold_4 : decode b_Groups_hold 4 = .ok (.iload_n 1, 1) := by decide +kernel
theorem d_Groups_hold_5 : decode b_Groups_hold 5 = .ok (.aaload, 1) := by decide +kernel
theorem d_Groups_hold_6 : decode b_Groups_hold 6 = .ok (.aload_n 2, 1) := by decide +kernel
theorem d_Groups_hold_7 : decode b_Groups_hold 7 = .ok (.invokevirtual 49, 3) := by decide +kernel
theorem d_Groups_hold_10 : decode b_Groups_hold 10 = .ok (.aload_n 0, 1) := by decide +kernel
theorem d_Groups_hold_11 : decode b_Groups_hold 11 = .ok (.getfield 17, 3) := by decide +kernel
theorem d_Groups_hold_14 : decode b_Groups_hold 14 = .ok (.iload_n 1, 1) := by decide +kernel
theorem d_Groups_hold_15 : decode b_Groups_hold 15 = .ok (.iconst 1, 1) := by decide +kernel
theorem d_Groups_hold_16 : decode b_Groups_hold 16 = .ok (.bastore, 1) := by decide +kernel
theorem d_Groups_hold_17 : decode b_Groups_hold 17 = .ok (.return_, 1) := by decide +kernel
abbrev b_Row_become : ByteArray := prog_9_method_6_code
abbrev y_Row_become : MethodName := ⟨"ReplacementWriter$Row", "become", "(LReplacementWriter$Row;)V"⟩
theorem d_Row_become_0 : decode b_Row_become 0 = .ok (.aload_n 1, 1) := by decide +kernel
theorem d_Row_become_1 : decode b_Row_become 1 = .ok (.getfield 13, 3) := by decide +kernel
theorem d_Row_become_4 : decode b_Row_become 4 = .ok (.aload_n 0, 1) := by decide +kernel
theorem d_Row_become_5 : decode b_Row_become 5 = .ok (.getfield 9, 3) := by decide +kernel
theorem d_Row_become_8 : decode b_Row_become 8 = .ok (.arraylength, 1) := by decide +kernel
theorem d_Row_become_9 : decode b_Row_become 9 = .ok (.if_icmp .le 13, 3) := by decide +kernel
theorem d_Row_become_12 : decode b_Row_become 12 = .ok (.aload_n 0, 1) := by decide +kernel
theorem d_Row_become_13 : decode b_Row_become 13 = .ok (.aload_n 1, 1) := by decide +kernel
theorem d_Row_become_14 : decode b_Row_become 14 = .ok (.getfield 13, 3) := by decide +kernel
theorem d_Row_become_17 : decode b_Row_become 17 = .ok (.newarray .byte, 2) := by decide +kernel
theorem d_Row_become_19 : decode b_Row_become 19 = .ok (.putfield 9, 3) := by decide +kernel
theorem d_Row_become_22 : decode b_Row_become 22 = .ok (.aload_n 1, 1) := by decide +kernel
theorem d_Row_become_23 : decode b_Row_become 23 = .ok (.getfield 9, 3) := by decide +kernel
theorem d_Row_become_26 : decode b_Row_become 26 = .ok (.iconst 0, 1) := by decide +kernel
theorem d_Row_become_27 : decode b_Row_become 27 = .ok (.aload_n 0, 1) := by decide +kernel
theorem d_Row_become_28 : decode b_Row_become 28 = .ok (.getfield 9, 3) := by decide +kernel
theorem d_Row_become_31 : decode b_Row_become 31 = .ok (.iconst 0, 1) := by decide +kernel
theorem d_Row_become_32 : decode b_Row_become 32 = .ok (.aload_n 1, 1) := by decide +kernel
theorem d_Row_become_33 : decode b_Row_become 33 = .ok (.getfield 13, 3) := by decide +kernel
theorem d_Row_become_36 : decode b_Row_become 36 = .ok (.invokestatic 26, 3) := by decide +kernel
theorem d_Row_become_39 : decode b_Row_become 39 = .ok (.aload_n 0, 1) := by decide +kernel
theorem d_Row_become_40 : decode b_Row_become 40 = .ok (.aload_n 1, 1) := by decide +kernel
theorem d_Row_become_41 : decode b_Row_become 41 = .ok (.getfield 13, 3) := by decide +kernel
theorem d_Row_become_44 : decode b_Row_become 44 = .ok (.putfield 13, 3) := by decide +kernel
theorem d_Row_become_47 : decode b_Row_become 47 = .ok (.return_, 1) := by decide +kernel
abbrev b_Encoding_charactersIn : ByteArray := prog_4_method_8_code
abbrev y_Encoding_charactersIn : MethodName := ⟨"ReplacementWriter$Encoding", "charactersIn", "(LReplacementWriter$Row;)I"⟩
theorem d_Encoding_charactersIn_0 : decode b_Encoding_charactersIn 0 = .ok (.iconst 0, 1) := by decide +kernel
theorem d_Encoding_charactersIn_1 : decode b_Encoding_charactersIn 1 = .ok (.istore_n 2, 1) := by decide +kernel
theorem d_Encoding_charactersIn_2 : decode b_Encoding_charactersIn 2 = .ok (.iconst 0, 1) := by decide +kernel
theorem d_Encoding_charactersIn_3 : decode b_Encoding_charactersIn 3 = .ok (.istore_n 3, 1) := by decide +kernel
theorem d_Encoding_charactersIn_4 : decode b_Encoding_charactersIn 4 = .ok (.iload_n 3, 1) := by decide +kernel
theorem d_Encoding_charactersIn_5 : decode b_Encoding_charactersIn 5 = .ok (.aload_n 1, 1) := by decide +kernel
theorem d_Encoding_charactersIn_6 : decode b_Encoding_charactersIn 6 = .ok (.invokevirtual 31, 3) := by decide +kernel
theorem d_Encoding_charactersIn_9 : decode b_Encoding_charactersIn 9 = .ok (.if_icmp .ge 34, 3) := by decide +kernel
theorem d_Encoding_charactersIn_12 : decode b_Encoding_charactersIn 12 = .ok (.aload_n 0, 1) := by decide +kernel
theorem d_Encoding_charactersIn_13 : decode b_Encoding_charactersIn 13 = .ok (.getfield 7, 3) := by decide +kernel
theorem d_Encoding_charactersIn_16 : decode b_Encoding_charactersIn 16 = .ok (.ifCond .eq 18, 3) := by decide +kernel
theorem d_Encoding_charactersIn_19 : decode b_Encoding_charactersIn 19 = .ok (.aload_n 1, 1) := by decide +kernel
theorem d_Encoding_charactersIn_20 : decode b_Encoding_charactersIn 20 = .ok (.iload_n 3, 1) := by decide +kernel
theorem d_Encoding_charactersIn_21 : decode b_Encoding_charactersIn 21 = .ok (.invokevirtual 22, 3) := by decide +kernel
theorem d_Encoding_charactersIn_24 : decode b_Encoding_charactersIn 24 = .ok (.sipush 192, 3) := by decide +kernel
theorem d_Encoding_charactersIn_27 : decode b_Encoding_charactersIn 27 = .ok (.iand, 1) := by decide +kernel
theorem d_Encoding_charactersIn_28 : decode b_Encoding_charactersIn 28 = .ok (.sipush 128, 3) := by decide +kernel
theorem d_Encoding_charactersIn_31 : decode b_Encoding_charactersIn 31 = .ok (.if_icmp .eq 6, 3) := by decide +kernel
theorem d_Encoding_charactersIn_34 : decode b_Encoding_charactersIn 34 = .ok (.iinc 2 1, 3) := by decide +kernel
theorem d_Encoding_charactersIn_37 : decode b_Encoding_charactersIn 37 = .ok (.iinc 3 1, 3) := by decide +kernel
theorem d_Encoding_charactersIn_40 : decode b_Encoding_charactersIn 40 = .ok (.goto (-36), 3) := by decide +kernel
theorem d_Encoding_charactersIn_43 : decode b_Encoding_charactersIn 43 = .ok (.iload_n 2, 1) := by decide +kernel
theorem d_Encoding_charactersIn_44 : decode b_Encoding_charactersIn 44 = .ok (.ireturn, 1) := by decide +kernel
abbrev b_Groups_letGo : ByteArray := prog_6_method_8_code
abbrev y_Groups_letGo : MethodName := ⟨"ReplacementWriter$Groups", "letGo", "(I)V"⟩
theorem d_Groups_letGo_0 : decode b_Groups_letGo 0 = .ok (.aload_n 0, 1) := by decide +kernel
theorem d_Groups_letGo_1 : decode b_Groups_letGo 1 = .ok (.getfield 17, 3) := by decide +kernel
theorem d_Groups_letGo_4 : decode b_Groups_letGo 4 = .ok (.iload_n 1, 1) := by decide +kernel
theorem d_Groups_letGo_5 : decode b_Groups_letGo 5 = .ok (.iconst 0, 1) := by decide +kernel
theorem d_Groups_letGo_6 : decode b_Groups_letGo 6 = .ok (.bastore, 1) := by decide +kernel
theorem d_Groups_letGo_7 : decode b_Groups_letGo 7 = .ok (.return_, 1) := by decide +kernel
abbrev b_Groups_isName : ByteArray := prog_6_method_11_code
abbrev y_Groups_isName : MethodName := ⟨"ReplacementWriter$Groups", "isName", "(LReplacementWriter$Row;)Z"⟩
theorem d_Groups_isName_0 : decode b_Groups_isName 0 = .ok (.aload_n 0, 1) := by decide +kernel
theorem d_Groups_isName_1 : decode b_Groups_isName 1 = .ok (.invokevirtual 53, 3) := by decide +kernel
theorem d_Groups_isName_4 : decode b_Groups_isName 4 = .ok (.iconst 1, 1) := by decide +kernel
theorem d_Groups_isName_5 : decode b_Groups_isName 5 = .ok (.if_icmp .lt 23, 3) := by decide +kernel
theorem d_Groups_isName_8 : decode b_Groups_isName 8 = .ok (.aload_n 0, 1) := by decide +kernel
theorem d_Groups_isName_9 : decode b_Groups_isName 9 = .ok (.invokevirtual 53, 3) := by decide +kernel
theorem d_Groups_isName_12 : decode b_Groups_isName 12 = .ok (.bipush 32, 2) := by decide +kernel
theorem d_Groups_isName_14 : decode b_Groups_isName 14 = .ok (.if_icmp .gt 14, 3) := by decide +kernel
theorem d_Groups_isName_17 : decode b_Groups_isName 17 = .ok (.aload_n 0, 1) := by decide +kernel
theorem d_Groups_isName_18 : decode b_Groups_isName 18 = .ok (.iconst 0, 1) := by decide +kernel
theorem d_Groups_isName_19 : decode b_Groups_isName 19 = .ok (.invokevirtual 57, 3) := by decide +kernel
theorem d_Groups_isName_22 : decode b_Groups_isName 22 = .ok (.invokestatic 61, 3) := by decide +kernel
theorem d_Groups_isName_25 : decode b_Groups_isName 25 = .ok (.ifCond .eq 5, 3) := by decide +kernel
theorem d_Groups_isName_28 : decode b_Groups_isName 28 = .ok (.iconst 0, 1) := by decide +kernel
theorem d_Groups_isName_29 : decode b_Groups_isName 29 = .ok (.ireturn, 1) := by decide +kernel
theorem d_Groups_isName_30 : decode b_Groups_isName 30 = .ok (.iconst 0, 1) := by decide +kernel
theorem d_Groups_isName_31 : decode b_Groups_isName 31 = .ok (.istore_n 1, 1) := by decide +kernel
theorem d_Groups_isName_32 : decode b_Groups_isName 32 = .ok (.iload_n 1, 1) := by decide +kernel
theorem d_Groups_isName_33 : decode b_Groups_isName 33 = .ok (.aload_n 0, 1) := by decide +kernel
theorem d_Groups_isName_34 : decode b_Groups_isName 34 = .ok (.invokevirtual 53, 3) := by decide +kernel
theorem d_Groups_isName_37 : decode b_Groups_isName 37 = .ok (.if_icmp .ge 22, 3) := by decide +kernel
theorem d_Groups_isName_40 : decode b_Groups_isName 40 = .ok (.aload_n 0, 1) := by decide +kernel
theorem d_Groups_isName_41 : decode b_Groups_isName 41 = .ok (.iload_n 1, 1) := by decide +kernel
theorem d_Groups_isName_42 : decode b_Groups_isName 42 = .ok (.invokevirtual 57, 3) := by decide +kernel
theorem d_Groups_isName_45 : decode b_Groups_isName 45 = .ok (.invokestatic 67, 3) := by decide +kernel
theorem d_Groups_isName_48 : decode b_Groups_isName 48 = .ok (.ifCond .ne 5, 3) := by decide +kernel
theorem d_Groups_isName_51 : decode b_Groups_isName 51 = .ok (.iconst 0, 1) := by decide +kernel
theorem d_Groups_isName_52 : decode b_Groups_isName 52 = .ok (.ireturn, 1) := by decide +kernel
theorem d_Groups_isName_53 : decode b_Groups_isName 53 = .ok (.iinc 1 1, 3) := by decide +kernel
theorem d_Groups_isName_56 : decode b_Groups_isName 56 = .ok (.goto (-24), 3) := by decide +kernel
theorem d_Groups_isName_59 : decode b_Groups_isName 59 = .ok (.iconst 1, 1) := by decide +kernel
theorem d_Groups_isName_60 : decode b_Groups_isName 60 = .ok (.ireturn, 1) := by decide +kernel
abbrev b_Ascii_isDigit : ByteArray := prog_2_method_2_code
abbrev y_Ascii_isDigit : MethodName := ⟨"ReplacementWriter$Ascii", "isDigit", "(I)Z"⟩
theorem d_Ascii_isDigit_0 : decode b_Ascii_isDigit 0 = .ok (.iload_n 0, 1) := by decide +kernel
theorem d_Ascii_isDigit_1 : decode b_Ascii_isDigit 1 = .ok (.bipush 48, 2) := by decide +kernel
theorem d_Ascii_isDigit_3 : decode b_Ascii_isDigit 3 = .ok (.if_icmp .lt 13, 3) := by decide +kernel
theorem d_Ascii_isDigit_6 : decode b_Ascii_isDigit 6 = .ok (.iload_n 0, 1) := by decide +kernel
theorem d_Ascii_isDigit_7 : decode b_Ascii_isDigit 7 = .ok (.bipush 57, 2) := by decide +kernel
theorem d_Ascii_isDigit_9 : decode b_Ascii_isDigit 9 = .ok (.if_icmp .gt 7, 3) := by decide +kernel
theorem d_Ascii_isDigit_12 : decode b_Ascii_isDigit 12 = .ok (.iconst 1, 1) := by decide +kernel
theorem d_Ascii_isDigit_13 : decode b_Ascii_isDigit 13 = .ok (.goto 4, 3) := by decide +kernel
theorem d_Ascii_isDigit_16 : decode b_Ascii_isDigit 16 = .ok (.iconst 0, 1) := by decide +kernel
theorem d_Ascii_isDigit_17 : decode b_Ascii_isDigit 17 = .ok (.ireturn, 1) := by decide +kernel
abbrev b_Ascii_isWord : ByteArray := prog_2_method_4_code
abbrev y_Ascii_isWord : MethodName := ⟨"ReplacementWriter$Ascii", "isWord", "(I)Z"⟩
theorem d_Ascii_isWord_0 : decode b_Ascii_isWord 0 = .ok (.iload_n 0, 1) := by decide +kernel
theorem d_Ascii_isWord_1 : decode b_Ascii_isWord 1 = .ok (.bipush 95, 2) := by decide +kernel
theorem d_Ascii_isWord_3 : decode b_Ascii_isWord 3 = .ok (.if_icmp .eq 10, 3) := by decide +kernel
theorem d_Ascii_isWord_6 : decode b_Ascii_isWord 6 = .ok (.iload_n 0, 1) := by decide +kernel
theorem d_Ascii_isWord_7 : decode b_Ascii_isWord 7 = .ok (.invokestatic 13, 3) := by decide +kernel
theorem d_Ascii_isWord_10 : decode b_Ascii_isWord 10 = .ok (.ifCond .eq 7, 3) := by decide +kernel
theorem d_Ascii_isWord_13 : decode b_Ascii_isWord 13 = .ok (.iconst 1, 1) := by decide +kernel
theorem d_Ascii_isWord_14 : decode b_Ascii_isWord 14 = .ok (.goto 4, 3) := by decide +kernel
theorem d_Ascii_isWord_17 : decode b_Ascii_isWord 17 = .ok (.iconst 0, 1) := by decide +kernel
theorem d_Ascii_isWord_18 : decode b_Ascii_isWord 18 = .ok (.ireturn, 1) := by decide +kernel
abbrev b_Ascii_isLetterOrDigit : ByteArray := prog_2_method_3_code
abbrev y_Ascii_isLetterOrDigit : MethodName := ⟨"ReplacementWriter$Ascii", "isLetterOrDigit", "(I)Z"⟩
theorem d_Ascii_isLetterOrDigit_0 : decode b_Ascii_isLetterOrDigit 0 = .ok (.iload_n 0, 1) := by decide +kernel
theorem d_Ascii_isLetterOrDigit_1 : decode b_Ascii_isLetterOrDigit 1 = .ok (.invokestatic 7, 3) := by decide +kernel
theorem d_Ascii_isLetterOrDigit_4 : decode b_Ascii_isLetterOrDigit 4 = .ok (.ifCond .ne 27, 3) := by decide +kernel
theorem d_Ascii_isLetterOrDigit_7 : decode b_Ascii_isLetterOrDigit 7 = .ok (.iload_n 0, 1) := by decide +kernel
theorem d_Ascii_isLetterOrDigit_8 : decode b_Ascii_isLetterOrDigit 8 = .ok (.bipush 65, 2) := by decide +kernel
theorem d_Ascii_isLetterOrDigit_10 : decode b_Ascii_isLetterOrDigit 10 = .ok (.if_icmp .lt 9, 3) := by decide +kernel
theorem d_Ascii_isLetterOrDigit_13 : decode b_Ascii_isLetterOrDigit 13 = .ok (.iload_n 0, 1) := by decide +kernel
theorem d_Ascii_isLetterOrDigit_14 : decode b_Ascii_isLetterOrDigit 14 = .ok (.bipush 90, 2) := by decide +kernel
theorem d_Ascii_isLetterOrDigit_16 : decode b_Ascii_isLetterOrDigit 16 = .ok (.if_icmp .le 15, 3) := by decide +kernel
theorem d_Ascii_isLetterOrDigit_19 : decode b_Ascii_isLetterOrDigit 19 = .ok (.iload_n 0, 1) := by decide +kernel
theorem d_Ascii_isLetterOrDigit_20 : decode b_Ascii_isLetterOrDigit 20 = .ok (.bipush 97, 2) := by decide +kernel
theorem d_Ascii_isLetterOrDigit_22 : decode b_Ascii_isLetterOrDigit 22 = .ok (.if_icmp .lt 13, 3) := by decide +kernel
theorem d_Ascii_isLetterOrDigit_25 : decode b_Ascii_isLetterOrDigit 25 = .ok (.iload_n 0, 1) := by decide +kernel
theorem d_Ascii_isLetterOrDigit_26 : decode b_Ascii_isLetterOrDigit 26 = .ok (.bipush 122, 2) := by decide +kernel
theorem d_Ascii_isLetterOrDigit_28 : decode b_Ascii_isLetterOrDigit 28 = .ok (.if_icmp .gt 7, 3) := by decide +kernel
theorem d_Ascii_isLetterOrDigit_31 : decode b_Ascii_isLetterOrDigit 31 = .ok (.iconst 1, 1) := by decide +kernel
theorem d_Ascii_isLetterOrDigit_32 : decode b_Ascii_isLetterOrDigit 32 = .ok (.goto 4, 3) := by decide +kernel
theorem d_Ascii_isLetterOrDigit_35 : decode b_Ascii_isLetterOrDigit 35 = .ok (.iconst 0, 1) := by decide +kernel
theorem d_Ascii_isLetterOrDigit_36 : decode b_Ascii_isLetterOrDigit 36 = .ok (.ireturn, 1) := by decide +kernel
abbrev b_Groups_giveName : ByteArray := prog_6_method_12_code
abbrev y_Groups_giveName : MethodName := ⟨"ReplacementWriter$Groups", "giveName", "(ILReplacementWriter$Row;)V"⟩
theorem d_Groups_giveName_0 : decode b_Groups_giveName 0 = .ok (.aload_n 0, 1) := by decide +kernel
theorem d_Groups_giveName_1 : decode b_Groups_giveName 1 = .ok (.dup, 1) := by decide +kernel
theorem d_Groups_giveName_2 : decode b_Groups_giveName 2 = .ok (.getfield 40, 3) := by decide +kernel
theorem d_Groups_giveName_5 : decode b_Groups_giveName 5 = .ok (.iconst 1, 1) := by decide +kernel
theorem d_Groups_giveName_6 : decode b_Groups_giveName 6 = .ok (.iadd, 1) := by decide +kernel
theorem d_Groups_giveName_7 : decode b_Groups_giveName 7 = .ok (.putfield 40, 3) := by decide +kernel
theorem d_Groups_giveName_10 : decode b_Groups_giveName 10 = .ok (.iconst 0, 1) := by decide +kernel
theorem d_Groups_giveName_11 : decode b_Groups_giveName 11 = .ok (.istore_n 3, 1) := by decide +kernel
theorem d_Groups_giveName_12 : decode b_Groups_giveName 12 = .ok (.iload_n 3, 1) := by decide +kernel
theorem d_Groups_giveName_13 : decode b_Groups_giveName 13 = .ok (.aload_n 0, 1) := by decide +kernel
theorem d_Groups_giveName_14 : decode b_Groups_giveName 14 = .ok (.getfield 24, 3) := by decide +kernel
theorem d_Groups_giveName_17 : decode b_Groups_giveName 17 = .ok (.invokevirtual 70, 3) := by decide +kernel
theorem d_Groups_giveName_20 : decode b_Groups_giveName 20 = .ok (.if_icmp .ge 46, 3) := by decide +kernel
theorem d_Groups_giveName_23 : decode b_Groups_giveName 23 = .ok (.aload_n 0, 1) := by decide +kernel
theorem d_Groups_giveName_24 : decode b_Groups_giveName 24 = .ok (.getfield 24, 3) := by decide +kernel
theorem d_Groups_giveName_27 : decode b_Groups_giveName 27 = .ok (.iload_n 3, 1) := by decide +kernel
theorem d_Groups_giveName_28 : decode b_Groups_giveName 28 = .ok (.invokevirtual 73, 3) := by decide +kernel
theorem d_Groups_giveName_31 : decode b_Groups_giveName 31 = .ok (.checkcast 77, 3) := by decide +kernel
theorem d_Groups_giveName_34 : decode b_Groups_giveName 34 = .ok (.astore 4, 2) := by decide +kernel
theorem d_Groups_giveName_36 : decode b_Groups_giveName 36 = .ok (.aload 4, 2) := by decide +kernel
theorem d_Groups_giveName_38 : decode b_Groups_giveName 38 = .ok (.getfield 79, 3) := by decide +kernel
theorem d_Groups_giveName_41 : decode b_Groups_giveName 41 = .ok (.iload_n 1, 1) := by decide +kernel
theorem d_Groups_giveName_42 : decode b_Groups_giveName 42 = .ok (.if_icmp .ne 18, 3) := by decide +kernel
theorem d_Groups_giveName_45 : decode b_Groups_giveName 45 = .ok (.aload 4, 2) := by decide +kernel
theorem d_Groups_giveName_47 : decode b_Groups_giveName 47 = .ok (.aload_n 2, 1) := by decide +kernel
theorem d_Groups_giveName_48 : decode b_Groups_giveName 48 = .ok (.iconst 0, 1) := by decide +kernel
theorem d_Groups_giveName_49 : decode b_Groups_giveName 49 = .ok (.aload_n 2, 1) := by decide +kernel
theorem d_Groups_giveName_50 : decode b_Groups_giveName 50 = .ok (.invokevirtual 53, 3) := by decide +kernel
theorem d_Groups_giveName_53 : decode b_Groups_giveName 53 = .ok (.invokevirtual 82, 3) := by decide +kernel
theorem d_Groups_giveName_56 : decode b_Groups_giveName 56 = .ok (.ifCond .eq 4, 3) := by decide +kernel
theorem d_Groups_giveName_59 : decode b_Groups_giveName 59 = .ok (.return_, 1) := by decide +kernel
theorem d_Groups_giveName_60 : decode b_Groups_giveName 60 = .ok (.iinc 3 1, 3) := by decide +kernel
theorem d_Groups_giveName_63 : decode b_Groups_giveName 63 = .ok (.goto (-51), 3) := by decide +kernel
theorem d_Groups_giveName_66 : decode b_Groups_giveName 66 = .ok (.aload_n 0, 1) := by decide +kernel
theorem d_Groups_giveName_67 : decode b_Groups_giveName 67 = .ok (.getfield 24, 3) := by decide +kernel
theorem d_Groups_giveName_70 : decode b_Groups_giveName 70 = .ok (.invokevirtual 70, 3) := by decide +kernel
theorem d_Groups_giveName_73 : decode b_Groups_giveName 73 = .ok (.sipush 512, 3) := by decide +kernel
theorem d_Groups_giveName_76 : decode b_Groups_giveName 76 = .ok (.if_icmp .ge 23, 3) := by decide +kernel
theorem d_Groups_giveName_79 : decode b_Groups_giveName 79 = .ok (.aload_n 0, 1) := by decide +kernel
theorem d_Groups_giveName_80 : decode b_Groups_giveName 80 = .ok (.getfield 24, 3) := by decide +kernel
theorem d_Groups_giveName_83 : decode b_Groups_giveName 83 = .ok (.new 77, 3) := by decide +kernel
theorem d_Groups_giveName_86 : decode b_Groups_giveName 86 = .ok (.dup, 1) := by decide +kernel
theorem d_Groups_giveName_87 : decode b_Groups_giveName 87 = .ok (.aload_n 2, 1) := by decide +kernel
theorem d_Groups_giveName_88 : decode b_Groups_giveName 88 = .ok (.invokevirtual 86, 3) := by decide +kernel
theorem d_Groups_giveName_91 : decode b_Groups_giveName 91 = .ok (.iload_n 1, 1) := by decide +kernel
theorem d_Groups_giveName_92 : decode b_Groups_giveName 92 = .ok (.invokespecial 90, 3) := by decide +kernel
theorem d_Groups_giveName_95 : decode b_Groups_giveName 95 = .ok (.invokevirtual 93, 3) := by decide +kernel
theorem d_Groups_giveName_98 : decode b_Groups_giveName 98 = .ok (.pop, 1) := by decide +kernel
theorem d_Groups_giveName_99 : decode b_Groups_giveName 99 = .ok (.return_, 1) := by decide +kernel
abbrev b_Name_stands : ByteArray := prog_7_method_2_code
abbrev y_Name_stands : MethodName := ⟨"ReplacementWriter$Name", "stands", "(LReplacementWriter$Row;II)Z"⟩
theorem d_Name_stands_0 : decode b_Name_stands 0 = .ok (.iload_n 3, 1) := by decide +kernel
theorem d_Name_stands_1 : decode b_Name_stands 1 = .ok (.iload_n 2, 1) := by decide +kernel
theorem d_Name_stands_2 : decode b_Name_stands 2 = .ok (.isub, 1) := by decide +kernel
theorem d_Name_stands_3 : decode b_Name_stands 3 = .ok (.aload_n 0, 1) := by decide +kernel
theorem d_Name_stands_4 : decode b_Name_stands 4 = .ok (.getfield 7, 3) := by decide +kernel
theorem d_Name_stands_7 : decode b_Name_stands 7 = .ok (.arraylength, 1) := by decide +kernel
theorem d_Name_stands_8 : decode b_Name_stands 8 = .ok (.if_icmp .eq 5, 3) := by decide +kernel
theorem d_Name_stands_11 : decode b_Name_stands 11 = .ok (.iconst 0, 1) := by decide +kernel
theorem d_Name_stands_12 : decode b_Name_stands 12 = .ok (.ireturn, 1) := by decide +kernel
theorem d_Name_stands_13 : decode b_Name_stands 13 = .ok (.iconst 0, 1) := by decide +kernel
theorem d_Name_stands_14 : decode b_Name_stands 14 = .ok (.istore 4, 2) := by decide +kernel
theorem d_Name_stands_16 : decode b_Name_stands 16 = .ok (.iload 4, 2) := by decide +kernel
theorem d_Name_stands_18 : decode b_Name_stands 18 = .ok (.aload_n 0, 1) := by decide +kernel
theorem d_Name_stands_19 : decode b_Name_stands 19 = .ok (.getfield 7, 3) := by decide +kernel
theorem d_Name_stands_22 : decode b_Name_stands 22 = .ok (.arraylength, 1) := by decide +kernel
theorem d_Name_stands_23 : decode b_Name_stands 23 = .ok (.if_icmp .ge 29, 3) := by decide +kernel
theorem d_Name_stands_26 : decode b_Name_stands 26 = .ok (.aload_n 1, 1) := by decide +kernel
theorem d_Name_stands_27 : decode b_Name_stands 27 = .ok (.iload_n 2, 1) := by decide +kernel
theorem d_Name_stands_28 : decode b_Name_stands 28 = .ok (.iload 4, 2) := by decide +kernel
theorem d_Name_stands_30 : decode b_Name_stands 30 = .ok (.iadd, 1) := by decide +kernel
theorem d_Name_stands_31 : decode b_Name_stands 31 = .ok (.invokevirtual 17, 3) := by decide +kernel
theorem d_Name_stands_34 : decode b_Name_stands 34 = .ok (.aload_n 0, 1) := by decide +kernel
theorem d_Name_stands_35 : decode b_Name_stands 35 = .ok (.getfield 7, 3) := by decide +kernel
theorem d_Name_stands_38 : decode b_Name_stands 38 = .ok (.iload 4, 2) := by decide +kernel
theorem d_Name_stands_40 : decode b_Name_stands 40 = .ok (.baload, 1) := by decide +kernel
theorem d_Name_stands_41 : decode b_Name_stands 41 = .ok (.if_icmp .eq 5, 3) := by decide +kernel
theorem d_Name_stands_44 : decode b_Name_stands 44 = .ok (.iconst 0, 1) := by decide +kernel
theorem d_Name_stands_45 : decode b_Name_stands 45 = .ok (.ireturn, 1) := by decide +kernel
theorem d_Name_stands_46 : decode b_Name_stands 46 = .ok (.iinc 4 1, 3) := by decide +kernel
theorem d_Name_stands_49 : decode b_Name_stands 49 = .ok (.goto (-33), 3) := by decide +kernel
theorem d_Name_stands_52 : decode b_Name_stands 52 = .ok (.iconst 1, 1) := by decide +kernel
theorem d_Name_stands_53 : decode b_Name_stands 53 = .ok (.ireturn, 1) := by decide +kernel
abbrev b_Row_copyOfBytes : ByteArray := prog_9_method_7_code
abbrev y_Row_copyOfBytes : MethodName := ⟨"ReplacementWriter$Row", "copyOfBytes", "()[B"⟩
theorem d_Row_copyOfBytes_0 : decode b_Row_copyOfBytes 0 = .ok (.aload_n 0, 1) := by decide +kernel
theorem d_Row_copyOfBytes_1 : decode b_Row_copyOfBytes 1 = .ok (.getfield 9, 3) := by decide +kernel
theorem d_Row_copyOfBytes_4 : decode b_Row_copyOfBytes 4 = .ok (.aload_n 0, 1) := by decide +kernel
theorem d_Row_copyOfBytes_5 : decode b_Row_copyOfBytes 5 = .ok (.getfield 13, 3) := by decide +kernel
theorem d_Row_copyOfBytes_8 : decode b_Row_copyOfBytes 8 = .ok (.invokestatic 20, 3) := by decide +kernel
theorem d_Row_copyOfBytes_11 : decode b_Row_copyOfBytes 11 = .ok (.areturn, 1) := by decide +kernel
abbrev b_Name_init : ByteArray := prog_7_method_1_code
abbrev y_Name_init : MethodName := ⟨"ReplacementWriter$Name", "<init>", "([BI)V"⟩
theorem d_Name_init_0 : decode b_Name_init 0 = .ok (.aload_n 0, 1) := by decide +kernel
theorem d_Name_init_1 : decode b_Name_init 1 = .ok (.invokespecial 1, 3) := by decide +kernel
theorem d_Name_init_4 : decode b_Name_init 4 = .ok (.aload_n 0, 1) := by decide +kernel
theorem d_Name_init_5 : decode b_Name_init 5 = .ok (.aload_n 1, 1) := by decide +kernel
theorem d_Name_init_6 : decode b_Name_init 6 = .ok (.putfield 7, 3) := by decide +kernel
theorem d_Name_init_9 : decode b_Name_init 9 = .ok (.aload_n 0, 1) := by decide +kernel
theorem d_Name_init_10 : decode b_Name_init 10 = .ok (.iload_n 2, 1) := by decide +kernel
theorem d_Name_init_11 : decode b_Name_init 11 = .ok (.putfield 13, 3) := by decide +kernel
theorem d_Name_init_14 : decode b_Name_init 14 = .ok (.return_, 1) := by decide +kernel
abbrev b_Groups_holdMark : ByteArray := prog_6_method_9_code
abbrev y_Groups_holdMark : MethodName := ⟨"ReplacementWriter$Groups", "holdMark", "(LReplacementWriter$Row;)V"⟩
theorem d_Groups_holdMark_0 : decode b_Groups_holdMark 0 = .ok (.aload_n 0, 1) := by decide +kernel
theorem d_Groups_holdMark_1 : decode b_Groups_holdMark 1 = .ok (.getfield 32, 3) := by decide +kernel
theorem d_Groups_holdMark_4 : decode b_Groups_holdMark 4 = .ok (.aload_n 1, 1) := by decide +kernel
theorem d_Groups_holdMark_5 : decode b_Groups_holdMark 5 = .ok (.invokevirtual 49, 3) := by decide +kernel
theorem d_Groups_holdMark_8 : decode b_Groups_holdMark 8 = .ok (.return_, 1) := by decide +kernel
abbrev b_Output_startAnew : ByteArray := prog_8_method_2_code
abbrev y_Output_startAnew : MethodName := ⟨"ReplacementWriter$Output", "startAnew", "()V"⟩
theorem d_Output_startAnew_0 : decode b_Output_startAnew 0 = .ok (.aload_n 0, 1) := by decide +kernel
theorem d_Output_startAnew_1 : decode b_Output_startAnew 1 = .ok (.getfield 15, 3) := by decide +kernel
theorem d_Output_startAnew_4 : decode b_Output_startAnew 4 = .ok (.iconst 0, 1) := by decide +kernel
theorem d_Output_startAnew_5 : decode b_Output_startAnew 5 = .ok (.invokevirtual 45, 3) := by decide +kernel
theorem d_Output_startAnew_8 : decode b_Output_startAnew 8 = .ok (.aload_n 0, 1) := by decide +kernel
theorem d_Output_startAnew_9 : decode b_Output_startAnew 9 = .ok (.getstatic 21, 3) := by decide +kernel
theorem d_Output_startAnew_12 : decode b_Output_startAnew 12 = .ok (.putfield 27, 3) := by decide +kernel
theorem d_Output_startAnew_15 : decode b_Output_startAnew 15 = .ok (.aload_n 0, 1) := by decide +kernel
theorem d_Output_startAnew_16 : decode b_Output_startAnew 16 = .ok (.getstatic 21, 3) := by decide +kernel
theorem d_Output_startAnew_19 : decode b_Output_startAnew 19 = .ok (.putfield 30, 3) := by decide +kernel
theorem d_Output_startAnew_22 : decode b_Output_startAnew 22 = .ok (.aload_n 0, 1) := by decide +kernel
theorem d_Output_startAnew_23 : decode b_Output_startAnew 23 = .ok (.iconst 0, 1) := by decide +kernel
theorem d_Output_startAnew_24 : decode b_Output_startAnew 24 = .ok (.putfield 33, 3) := by decide +kernel
theorem d_Output_startAnew_27 : decode b_Output_startAnew 27 = .ok (.return_, 1) := by decide +kernel
abbrev b_Output_copy : ByteArray := prog_8_method_7_code
abbrev y_Output_copy : MethodName := ⟨"ReplacementWriter$Output", "copy", "(LReplacementWriter$Row;II)V"⟩
theorem d_Output_copy_0 : decode b_Output_copy 0 = .ok (.iload_n 2, 1) := by decide +kernel
theorem d_Output_copy_1 : decode b_Output_copy 1 = .ok (.istore 4, 2) := by decide +kernel
theorem d_Output_copy_3 : decode b_Output_copy 3 = .ok (.iload 4, 2) := by decide +kernel
theorem d_Output_copy_5 : decode b_Output_copy 5 = .ok (.iload_n 3, 1) := by decide +kernel
theorem d_Output_copy_6 : decode b_Output_copy 6 = .ok (.if_icmp .ge 49, 3) := by decide +kernel
theorem d_Output_copy_9 : decode b_Output_copy 9 = .ok (.aload_n 0, 1) := by decide +kernel
theorem d_Output_copy_10 : decode b_Output_copy 10 = .ok (.getfield 33, 3) := by decide +kernel
theorem d_Output_copy_13 : decode b_Output_copy 13 = .ok (.ifCond .ne 42, 3) := by decide +kernel
theorem d_Output_copy_16 : decode b_Output_copy 16 = .ok (.aload_n 0, 1) := by decide +kernel
theorem d_Output_copy_17 : decode b_Output_copy 17 = .ok (.aload_n 0, 1) := by decide +kernel
theorem d_Output_copy_18 : decode b_Output_copy 18 = .ok (.getfield 37, 3) := by decide +kernel
theorem d_Output_copy_21 : decode b_Output_copy 21 = .ok (.aload_n 1, 1) := by decide +kernel
theorem d_Output_copy_22 : decode b_Output_copy 22 = .ok (.iload 4, 2) := by decide +kernel
theorem d_Output_copy_24 : decode b_Output_copy 24 = .ok (.invokevirtual 48, 3) := by decide +kernel
theorem d_Output_copy_27 : decode b_Output_copy 27 = .ok (.invokevirtual 54, 3) := by decide +kernel
theorem d_Output_copy_30 : decode b_Output_copy 30 = .ok (.iload 4, 2) := by decide +kernel
theorem d_Output_copy_32 : decode b_Output_copy 32 = .ok (.iconst 1, 1) := by decide +kernel
theorem d_Output_copy_33 : decode b_Output_copy 33 = .ok (.aload_n 0, 1) := by decide +kernel
theorem d_Output_copy_34 : decode b_Output_copy 34 = .ok (.getfield 37, 3) := by decide +kernel
theorem d_Output_copy_37 : decode b_Output_copy 37 = .ok (.aload_n 1, 1) := by decide +kernel
theorem d_Output_copy_38 : decode b_Output_copy 38 = .ok (.iload 4, 2) := by decide +kernel
theorem d_Output_copy_40 : decode b_Output_copy 40 = .ok (.invokevirtual 57, 3) := by decide +kernel
theorem d_Output_copy_43 : decode b_Output_copy 43 = .ok (.invokevirtual 61, 3) := by decide +kernel
theorem d_Output_copy_46 : decode b_Output_copy 46 = .ok (.invokestatic 64, 3) := by decide +kernel
theorem d_Output_copy_49 : decode b_Output_copy 49 = .ok (.iadd, 1) := by decide +kernel
theorem d_Output_copy_50 : decode b_Output_copy 50 = .ok (.istore 4, 2) := by decide +kernel
theorem d_Output_copy_52 : decode b_Output_copy 52 = .ok (.goto (-49), 3) := by decide +kernel
theorem d_Output_copy_55 : decode b_Output_copy 55 = .ok (.return_, 1) := by decide +kernel
abbrev b_Output_put : ByteArray := prog_8_method_8_code
abbrev y_Output_put : MethodName := ⟨"ReplacementWriter$Output", "put", "(I)V"⟩
theorem d_Output_put_0 : decode b_Output_put 0 = .ok (.aload_n 0, 1) := by decide +kernel
theorem d_Output_put_1 : decode b_Output_put 1 = .ok (.getfield 41, 3) := by decide +kernel
theorem d_Output_put_4 : decode b_Output_put 4 = .ok (.iload_n 1, 1) := by decide +kernel
theorem d_Output_put_5 : decode b_Output_put 5 = .ok (.aload_n 0, 1) := by decide +kernel
theorem d_Output_put_6 : decode b_Output_put 6 = .ok (.getfield 30, 3) := by decide +kernel
theorem d_Output_put_9 : decode b_Output_put 9 = .ok (.getstatic 21, 3) := by decide +kernel
theorem d_Output_put_12 : decode b_Output_put 12 = .ok (.if_acmp .ne 10, 3) := by decide +kernel
theorem d_Output_put_15 : decode b_Output_put 15 = .ok (.aload_n 0, 1) := by decide +kernel
theorem d_Output_put_16 : decode b_Output_put 16 = .ok (.getfield 27, 3) := by decide +kernel
theorem d_Output_put_19 : decode b_Output_put 19 = .ok (.goto 7, 3) := by decide +kernel
theorem d_Output_put_22 : decode b_Output_put 22 = .ok (.aload_n 0, 1) := by decide +kernel
theorem d_Output_put_23 : decode b_Output_put 23 = .ok (.getfield 30, 3) := by decide +kernel
theorem d_Output_put_26 : decode b_Output_put 26 = .ok (.invokevirtual 70, 3) := by decide +kernel
theorem d_Output_put_29 : decode b_Output_put 29 = .ok (.istore_n 2, 1) := by decide +kernel
theorem d_Output_put_30 : decode b_Output_put 30 = .ok (.aload_n 0, 1) := by decide +kernel
theorem d_Output_put_31 : decode b_Output_put 31 = .ok (.getstatic 21, 3) := by decide +kernel
theorem d_Output_put_34 : decode b_Output_put 34 = .ok (.putfield 30, 3) := by decide +kernel
theorem d_Output_put_37 : decode b_Output_put 37 = .ok (.aload_n 0, 1) := by decide +kernel
theorem d_Output_put_38 : decode b_Output_put 38 = .ok (.getfield 37, 3) := by decide +kernel
theorem d_Output_put_41 : decode b_Output_put 41 = .ok (.iload_n 2, 1) := by decide +kernel
theorem d_Output_put_42 : decode b_Output_put 42 = .ok (.invokevirtual 76, 3) := by decide +kernel
theorem d_Output_put_45 : decode b_Output_put 45 = .ok (.istore_n 3, 1) := by decide +kernel
theorem d_Output_put_46 : decode b_Output_put 46 = .ok (.aload_n 0, 1) := by decide +kernel
theorem d_Output_put_47 : decode b_Output_put 47 = .ok (.getfield 15, 3) := by decide +kernel
theorem d_Output_put_50 : decode b_Output_put 50 = .ok (.invokevirtual 79, 3) := by decide +kernel
theorem d_Output_put_53 : decode b_Output_put 53 = .ok (.iload_n 3, 1) := by decide +kernel
theorem d_Output_put_54 : decode b_Output_put 54 = .ok (.iadd, 1) := by decide +kernel
theorem d_Output_put_55 : decode b_Output_put 55 = .ok (.ldc 11, 2) := by decide +kernel
theorem d_Output_put_57 : decode b_Output_put 57 = .ok (.if_icmp .le 9, 3) := by decide +kernel
theorem d_Output_put_60 : decode b_Output_put 60 = .ok (.aload_n 0, 1) := by decide +kernel
theorem d_Output_put_61 : decode b_Output_put 61 = .ok (.iconst 1, 1) := by decide +kernel
theorem d_Output_put_62 : decode b_Output_put 62 = .ok (.putfield 33, 3) := by decide +kernel
theorem d_Output_put_65 : decode b_Output_put 65 = .ok (.return_, 1) := by decide +kernel
theorem d_Output_put_66 : decode b_Output_put 66 = .ok (.iload_n 3, 1) := by decide +kernel
theorem d_Output_put_67 : decode b_Output_put 67 = .ok (.iconst 1, 1) := by decide +kernel
theorem d_Output_put_68 : decode b_Output_put 68 = .ok (.if_icmp .ne 12, 3) := by decide +kernel
theorem d_Output_put_71 : decode b_Output_put 71 = .ok (.aload_n 0, 1) := by decide +kernel
theorem d_Output_put_72 : decode b_Output_put 72 = .ok (.getfield 15, 3) := by decide +kernel
theorem d_Output_put_75 : decode b_Output_put 75 = .ok (.iload_n 2, 1) := by decide +kernel
theorem d_Output_put_76 : decode b_Output_put 76 = .ok (.invokevirtual 83, 3) := by decide +kernel
theorem d_Output_put_79 : decode b_Output_put 79 = .ok (.return_, 1) := by decide +kernel
theorem d_Output_put_80 : decode b_Output_put 80 = .ok (.aload_n 0, 1) := by decide +kernel
theorem d_Output_put_81 : decode b_Output_put 81 = .ok (.getfield 15, 3) := by decide +kernel
theorem d_Output_put_84 : decode b_Output_put 84 = .ok (.sipush 3840, 3) := by decide +kernel
theorem d_Output_put_87 : decode b_Output_put 87 = .ok (.iload_n 3, 1) := by decide +kernel
theorem d_Output_put_88 : decode b_Output_put 88 = .ok (.ishr, 1) := by decide +kernel
theorem d_Output_put_89 : decode b_Output_put 89 = .ok (.iload_n 2, 1) := by decide +kernel
theorem d_Output_put_90 : decode b_Output_put 90 = .ok (.bipush 6, 2) := by decide +kernel
theorem d_Output_put_92 : decode b_Output_put 92 = .ok (.iload_n 3, 1) := by decide +kernel
theorem d_Output_put_93 : decode b_Output_put 93 = .ok (.iconst 1, 1) := by decide +kernel
theorem d_Output_put_94 : decode b_Output_put 94 = .ok (.isub, 1) := by decide +kernel
theorem d_Output_put_95 : decode b_Output_put 95 = .ok (.imul, 1) := by decide +kernel
theorem d_Output_put_96 : decode b_Output_put 96 = .ok (.ishr, 1) := by decide +kernel
theorem d_Output_put_97 : decode b_Output_put 97 = .ok (.ior, 1) := by decide +kernel
theorem d_Output_put_98 : decode b_Output_put 98 = .ok (.invokevirtual 83, 3) := by decide +kernel
theorem d_Output_put_101 : decode b_Output_put 101 = .ok (.iload_n 3, 1) := by decide +kernel
theorem d_Output_put_102 : decode b_Output_put 102 = .ok (.iconst 2, 1) := by decide +kernel
theorem d_Output_put_103 : decode b_Output_put 103 = .ok (.isub, 1) := by decide +kernel
theorem d_Output_put_104 : decode b_Output_put 104 = .ok (.istore 4, 2) := by decide +kernel
theorem d_Output_put_106 : decode b_Output_put 106 = .ok (.iload 4, 2) := by decide +kernel
theorem d_Output_put_108 : decode b_Output_put 108 = .ok (.ifCond .lt 30, 3) := by decide +kernel
theorem d_Output_put_111 : decode b_Output_put 111 = .ok (.aload_n 0, 1) := by decide +kernel
theorem d_Output_put_112 : decode b_Output_put 112 = .ok (.getfield 15, 3) := by decide +kernel
theorem d_Output_put_115 : decode b_Output_put 115 = .ok (.sipush 128, 3) := by decide +kernel
theorem d_Output_put_118 : decode b_Output_put 118 = .ok (.iload_n 2, 1) := by decide +kernel
theorem d_Output_put_119 : decode b_Output_put 119 = .ok (.bipush 6, 2) := by decide +kernel
theorem d_Output_put_121 : decode b_Output_put 121 = .ok (.iload 4, 2) := by decide +kernel
theorem d_Output_put_123 : decode b_Output_put 123 = .ok (.imul, 1) := by decide +kernel
theorem d_Output_put_124 : decode b_Output_put 124 = .ok (.ishr, 1) := by decide +kernel
theorem d_Output_put_125 : decode b_Output_put 125 = .ok (.bipush 63, 2) := by decide +kernel
theorem d_Output_put_127 : decode b_Output_put 127 = .ok (.iand, 1) := by decide +kernel
theorem d_Output_put_128 : decode b_Output_put 128 = .ok (.ior, 1) := by decide +kernel
theorem d_Output_put_129 : decode b_Output_put 129 = .ok (.invokevirtual 83, 3) := by decide +kernel
theorem d_Output_put_132 : decode b_Output_put 132 = .ok (.iinc 4 (-1), 3) := by decide +kernel
theorem d_Output_put_135 : decode b_Output_put 135 = .ok (.goto (-29), 3) := by decide +kernel
theorem d_Output_put_138 : decode b_Output_put 138 = .ok (.return_, 1) := by decide +kernel
abbrev b_Cases_turned : ByteArray := prog_3_method_2_code
abbrev y_Cases_turned : MethodName := ⟨"ReplacementWriter$Cases", "turned", "(ILReplacementWriter$Turn;)I"⟩
theorem d_Cases_turned_0 : decode b_Cases_turned 0 = .ok (.aload_n 2, 1) := by decide +kernel
theorem d_Cases_turned_1 : decode b_Cases_turned 1 = .ok (.getstatic 17, 3) := by decide +kernel
theorem d_Cases_turned_4 : decode b_Cases_turned 4 = .ok (.if_acmp .ne 5, 3) := by decide +kernel
theorem d_Cases_turned_7 : decode b_Cases_turned 7 = .ok (.iload_n 1, 1) := by decide +kernel
theorem d_Cases_turned_8 : decode b_Cases_turned 8 = .ok (.ireturn, 1) := by decide +kernel
theorem d_Cases_turned_9 : decode b_Cases_turned 9 = .ok (.aload_n 2, 1) := by decide +kernel
theorem d_Cases_turned_10 : decode b_Cases_turned 10 = .ok (.getstatic 23, 3) := by decide +kernel
theorem d_Cases_turned_13 : decode b_Cases_turned 13 = .ok (.if_acmp .ne 7, 3) := by decide +kernel
theorem d_Cases_turned_16 : decode b_Cases_turned 16 = .ok (.iconst 1, 1) := by decide +kernel
theorem d_Cases_turned_17 : decode b_Cases_turned 17 = .ok (.goto 4, 3) := by decide +kernel
theorem d_Cases_turned_20 : decode b_Cases_turned 20 = .ok (.iconst 0, 1) := by decide +kernel
theorem d_Cases_turned_21 : decode b_Cases_turned 21 = .ok (.istore_n 3, 1) := by decide +kernel
theorem d_Cases_turned_22 : decode b_Cases_turned 22 = .ok (.iload_n 3, 1) := by decide +kernel
theorem d_Cases_turned_23 : decode b_Cases_turned 23 = .ok (.ifCond .eq 7, 3) := by decide +kernel
theorem d_Cases_turned_26 : decode b_Cases_turned 26 = .ok (.iconst 2, 1) := by decide +kernel
theorem d_Cases_turned_27 : decode b_Cases_turned 27 = .ok (.goto 4, 3) := by decide +kernel
theorem d_Cases_turned_30 : decode b_Cases_turned 30 = .ok (.iconst 1, 1) := by decide +kernel
theorem d_Cases_turned_31 : decode b_Cases_turned 31 = .ok (.istore 4, 2) := by decide +kernel
theorem d_Cases_turned_33 : decode b_Cases_turned 33 = .ok (.iconst 0, 1) := by decide +kernel
theorem d_Cases_turned_34 : decode b_Cases_turned 34 = .ok (.istore 5, 2) := by decide +kernel
theorem d_Cases_turned_36 : decode b_Cases_turned 36 = .ok (.iload 5, 2) := by decide +kernel
theorem d_Cases_turned_38 : decode b_Cases_turned 38 = .ok (.aload_n 0, 1) := by decide +kernel
theorem d_Cases_turned_39 : decode b_Cases_turned 39 = .ok (.getfield 13, 3) := by decide +kernel
theorem d_Cases_turned_42 : decode b_Cases_turned 42 = .ok (.if_icmp .ge 71, 3) := by decide +kernel
theorem d_Cases_turned_45 : decode b_Cases_turned 45 = .ok (.getstatic 9, 3) := by decide +kernel
theorem d_Cases_turned_48 : decode b_Cases_turned 48 = .ok (.iload 5, 2) := by decide +kernel
theorem d_Cases_turned_50 : decode b_Cases_turned 50 = .ok (.iconst 3, 1) := by decide +kernel
theorem d_Cases_turned_51 : decode b_Cases_turned 51 = .ok (.iadd, 1) := by decide +kernel
theorem d_Cases_turned_52 : decode b_Cases_turned 52 = .ok (.iaload, 1) := by decide +kernel
theorem d_Cases_turned_53 : decode b_Cases_turned 53 = .ok (.istore 6, 2) := by decide +kernel
theorem d_Cases_turned_55 : decode b_Cases_turned 55 = .ok (.iload_n 3, 1) := by decide +kernel
theorem d_Cases_turned_56 : decode b_Cases_turned 56 = .ok (.ifCond .eq 10, 3) := by decide +kernel
theorem d_Cases_turned_59 : decode b_Cases_turned 59 = .ok (.iload_n 1, 1) := by decide +kernel
theorem d_Cases_turned_60 : decode b_Cases_turned 60 = .ok (.iload 6, 2) := by decide +kernel
theorem d_Cases_turned_62 : decode b_Cases_turned 62 = .ok (.isub, 1) := by decide +kernel
theorem d_Cases_turned_63 : decode b_Cases_turned 63 = .ok (.goto 4, 3) := by decide +kernel
theorem d_Cases_turned_66 : decode b_Cases_turned 66 = .ok (.iload_n 1, 1) := by decide +kernel
theorem d_Cases_turned_67 : decode b_Cases_turned 67 = .ok (.istore 7, 2) := by decide +kernel
theorem d_Cases_turned_69 : decode b_Cases_turned 69 = .ok (.getstatic 9, 3) := by decide +kernel
theorem d_Cases_turned_72 : decode b_Cases_turned 72 = .ok (.iload 5, 2) := by decide +kernel
theorem d_Cases_turned_74 : decode b_Cases_turned 74 = .ok (.iconst 4, 1) := by decide +kernel
theorem d_Cases_turned_75 : decode b_Cases_turned 75 = .ok (.iadd, 1) := by decide +kernel
theorem d_Cases_turned_76 : decode b_Cases_turned 76 = .ok (.iaload, 1) := by decide +kernel
theorem d_Cases_turned_77 : decode b_Cases_turned 77 = .ok (.iload 4, 2) := by decide +kernel
theorem d_Cases_turned_79 : decode b_Cases_turned 79 = .ok (.if_icmp .eq 28, 3) := by decide +kernel
theorem d_Cases_turned_82 : decode b_Cases_turned 82 = .ok (.iload 5, 2) := by decide +kernel
theorem d_Cases_turned_84 : decode b_Cases_turned 84 = .ok (.iload 7, 2) := by decide +kernel
theorem d_Cases_turned_86 : decode b_Cases_turned 86 = .ok (.invokestatic 26, 3) := by decide +kernel
theorem d_Cases_turned_89 : decode b_Cases_turned 89 = .ok (.ifCond .eq 18, 3) := by decide +kernel
theorem d_Cases_turned_92 : decode b_Cases_turned 92 = .ok (.iload_n 3, 1) := by decide +kernel
theorem d_Cases_turned_93 : decode b_Cases_turned 93 = .ok (.ifCond .eq 8, 3) := by decide +kernel
theorem d_Cases_turned_96 : decode b_Cases_turned 96 = .ok (.iload 7, 2) := by decide +kernel
theorem d_Cases_turned_98 : decode b_Cases_turned 98 = .ok (.goto 8, 3) := by decide +kernel
theorem d_Cases_turned_101 : decode b_Cases_turned 101 = .ok (.iload 7, 2) := by decide +kernel
theorem d_Cases_turned_103 : decode b_Cases_turned 103 = .ok (.iload 6, 2) := by decide +kernel
theorem d_Cases_turned_105 : decode b_Cases_turned 105 = .ok (.iadd, 1) := by decide +kernel
theorem d_Cases_turned_106 : decode b_Cases_turned 106 = .ok (.ireturn, 1) := by decide +kernel
theorem d_Cases_turned_107 : decode b_Cases_turned 107 = .ok (.iinc 5 5, 3) := by decide +kernel
theorem d_Cases_turned_110 : decode b_Cases_turned 110 = .ok (.goto (-74), 3) := by decide +kernel
theorem d_Cases_turned_113 : decode b_Cases_turned 113 = .ok (.iload_n 1, 1) := by decide +kernel
theorem d_Cases_turned_114 : decode b_Cases_turned 114 = .ok (.ireturn, 1) := by decide +kernel
abbrev b_Cases_isUpperOf : ByteArray := prog_3_method_3_code
abbrev y_Cases_isUpperOf : MethodName := ⟨"ReplacementWriter$Cases", "isUpperOf", "(II)Z"⟩
theorem d_Cases_isUpperOf_0 : decode b_Cases_isUpperOf 0 = .ok (.getstatic 9, 3) := by decide +kernel
theorem d_Cases_isUpperOf_3 : decode b_Cases_isUpperOf 3 = .ok (.iload_n 0, 1) := by decide +kernel
theorem d_Cases_isUpperOf_4 : decode b_Cases_isUpperOf 4 = .ok (.iaload, 1) := by decide +kernel
theorem d_Cases_isUpperOf_5 : decode b_Cases_isUpperOf 5 = .ok (.istore_n 2, 1) := by decide +kernel
theorem d_Cases_isUpperOf_6 : decode b_Cases_isUpperOf 6 = .ok (.getstatic 9, 3) := by decide +kernel
theorem d_Cases_isUpperOf_9 : decode b_Cases_isUpperOf 9 = .ok (.iload_n 0, 1) := by decide +kernel
theorem d_Cases_isUpperOf_10 : decode b_Cases_isUpperOf 10 = .ok (.iconst 2, 1) := by decide +kernel
theorem d_Cases_isUpperOf_11 : decode b_Cases_isUpperOf 11 = .ok (.iadd, 1) := by decide +kernel
theorem d_Cases_isUpperOf_12 : decode b_Cases_isUpperOf 12 = .ok (.iaload, 1) := by decide +kernel
theorem d_Cases_isUpperOf_13 : decode b_Cases_isUpperOf 13 = .ok (.iconst 2, 1) := by decide +kernel
theorem d_Cases_isUpperOf_14 : decode b_Cases_isUpperOf 14 = .ok (.if_icmp .ne 15, 3) := by decide +kernel
theorem d_Cases_isUpperOf_17 : decode b_Cases_isUpperOf 17 = .ok (.iload_n 1, 1) := by decide +kernel
theorem d_Cases_isUpperOf_18 : decode b_Cases_isUpperOf 18 = .ok (.iload_n 2, 1) := by decide +kernel
theorem d_Cases_isUpperOf_19 : decode b_Cases_isUpperOf 19 = .ok (.isub, 1) := by decide +kernel
theorem d_Cases_isUpperOf_20 : decode b_Cases_isUpperOf 20 = .ok (.iconst 1, 1) := by decide +kernel
theorem d_Cases_isUpperOf_21 : decode b_Cases_isUpperOf 21 = .ok (.iand, 1) := by decide +kernel
theorem d_Cases_isUpperOf_22 : decode b_Cases_isUpperOf 22 = .ok (.ifCond .eq 7, 3) := by decide +kernel
theorem d_Cases_isUpperOf_25 : decode b_Cases_isUpperOf 25 = .ok (.iconst 1, 1) := by decide +kernel
theorem d_Cases_isUpperOf_26 : decode b_Cases_isUpperOf 26 = .ok (.goto 4, 3) := by decide +kernel
theorem d_Cases_isUpperOf_29 : decode b_Cases_isUpperOf 29 = .ok (.iconst 0, 1) := by decide +kernel
theorem d_Cases_isUpperOf_30 : decode b_Cases_isUpperOf 30 = .ok (.istore_n 3, 1) := by decide +kernel
theorem d_Cases_isUpperOf_31 : decode b_Cases_isUpperOf 31 = .ok (.iload_n 1, 1) := by decide +kernel
theorem d_Cases_isUpperOf_32 : decode b_Cases_isUpperOf 32 = .ok (.iload_n 2, 1) := by decide +kernel
theorem d_Cases_isUpperOf_33 : decode b_Cases_isUpperOf 33 = .ok (.if_icmp .lt 22, 3) := by decide +kernel
theorem d_Cases_isUpperOf_36 : decode b_Cases_isUpperOf 36 = .ok (.iload_n 1, 1) := by decide +kernel
theorem d_Cases_isUpperOf_37 : decode b_Cases_isUpperOf 37 = .ok (.getstatic 9, 3) := by decide +kernel
theorem d_Cases_isUpperOf_40 : decode b_Cases_isUpperOf 40 = .ok (.iload_n 0, 1) := by decide +kernel
theorem d_Cases_isUpperOf_41 : decode b_Cases_isUpperOf 41 = .ok (.iconst 1, 1) := by decide +kernel
theorem d_Cases_isUpperOf_42 : decode b_Cases_isUpperOf 42 = .ok (.iadd, 1) := by decide +kernel
theorem d_Cases_isUpperOf_43 : decode b_Cases_isUpperOf 43 = .ok (.iaload, 1) := by decide +kernel
theorem d_Cases_isUpperOf_44 : decode b_Cases_isUpperOf 44 = .ok (.if_icmp .gt 11, 3) := by decide +kernel
theorem d_Cases_isUpperOf_47 : decode b_Cases_isUpperOf 47 = .ok (.iload_n 3, 1) := by decide +kernel
theorem d_Cases_isUpperOf_48 : decode b_Cases_isUpperOf 48 = .ok (.ifCond .ne 7, 3) := by decide +kernel
theorem d_Cases_isUpperOf_51 : decode b_Cases_isUpperOf 51 = .ok (.iconst 1, 1) := by decide +kernel
theorem d_Cases_isUpperOf_52 : decode b_Cases_isUpperOf 52 = .ok (.goto 4, 3) := by decide +kernel
theorem d_Cases_isUpperOf_55 : decode b_Cases_isUpperOf 55 = .ok (.iconst 0, 1) := by decide +kernel
theorem d_Cases_isUpperOf_56 : decode b_Cases_isUpperOf 56 = .ok (.ireturn, 1) := by decide +kernel
abbrev b_Groups_markText : ByteArray := prog_6_method_5_code
abbrev y_Groups_markText : MethodName := ⟨"ReplacementWriter$Groups", "markText", "()LReplacementWriter$Row;"⟩
theorem d_Groups_markText_0 : decode b_Groups_markText 0 = .ok (.aload_n 0, 1) := by decide +kernel
theorem d_Groups_markText_1 : decode b_Groups_markText 1 = .ok (.getfield 32, 3) := by decide +kernel
theorem d_Groups_markText_4 : decode b_Groups_markText 4 = .ok (.areturn, 1) := by decide +kernel
abbrev b_Groups_numbered : ByteArray := prog_6_method_13_code
abbrev y_Groups_numbered : MethodName := ⟨"ReplacementWriter$Groups", "numbered", "(I)I"⟩
theorem d_Groups_numbered_0 : decode b_Groups_numbered 0 = .ok (.aload_n 0, 1) := by decide +kernel
theorem d_Groups_numbered_1 : decode b_Groups_numbered 1 = .ok (.iload_n 1, 1) := by decide +kernel
theorem d_Groups_numbered_2 : decode b_Groups_numbered 2 = .ok (.invokevirtual 97, 3) := by decide +kernel
theorem d_Groups_numbered_5 : decode b_Groups_numbered 5 = .ok (.ifCond .ne 6, 3) := by decide +kernel
theorem d_Groups_numbered_8 : decode b_Groups_numbered 8 = .ok (.bipush (-2), 2) := by decide +kernel
theorem d_Groups_numbered_10 : decode b_Groups_numbered 10 = .ok (.ireturn, 1) := by decide +kernel
theorem d_Groups_numbered_11 : decode b_Groups_numbered 11 = .ok (.aload_n 0, 1) := by decide +kernel
theorem d_Groups_numbered_12 : decode b_Groups_numbered 12 = .ok (.getfield 17, 3) := by decide +kernel
theorem d_Groups_numbered_15 : decode b_Groups_numbered 15 = .ok (.iload_n 1, 1) := by decide +kernel
theorem d_Groups_numbered_16 : decode b_Groups_numbered 16 = .ok (.baload, 1) := by decide +kernel
theorem d_Groups_numbered_17 : decode b_Groups_numbered 17 = .ok (.ifCond .eq 7, 3) := by decide +kernel
theorem d_Groups_numbered_20 : decode b_Groups_numbered 20 = .ok (.iload_n 1, 1) := by decide +kernel
theorem d_Groups_numbered_21 : decode b_Groups_numbered 21 = .ok (.goto 4, 3) := by decide +kernel
theorem d_Groups_numbered_24 : decode b_Groups_numbered 24 = .ok (.iconst (-1), 1) := by decide +kernel
theorem d_Groups_numbered_25 : decode b_Groups_numbered 25 = .ok (.ireturn, 1) := by decide +kernel
abbrev b_Groups_named : ByteArray := prog_6_method_14_code
abbrev y_Groups_named : MethodName := ⟨"ReplacementWriter$Groups", "named", "(LReplacementWriter$Row;II)I"⟩
theorem d_Groups_named_0 : decode b_Groups_named 0 = .ok (.bipush (-2), 2) := by decide +kernel
theorem d_Groups_named_2 : decode b_Groups_named 2 = .ok (.istore 4, 2) := by decide +kernel
theorem d_Groups_named_4 : decode b_Groups_named 4 = .ok (.iconst 0, 1) := by decide +kernel
theorem d_Groups_named_5 : decode b_Groups_named 5 = .ok (.istore 5, 2) := by decide +kernel
theorem d_Groups_named_7 : decode b_Groups_named 7 = .ok (.iload 5, 2) := by decide +kernel
theorem d_Groups_named_9 : decode b_Groups_named 9 = .ok (.aload_n 0, 1) := by decide +kernel
theorem d_Groups_named_10 : decode b_Groups_named 10 = .ok (.getfield 24, 3) := by decide +kernel
theorem d_Groups_named_13 : decode b_Groups_named 13 = .ok (.invokevirtual 70, 3) := by decide +kernel
theorem d_Groups_named_16 : decode b_Groups_named 16 = .ok (.if_icmp .ge 88, 3) := by decide +kernel
theorem d_Groups_named_19 : decode b_Groups_named 19 = .ok (.aload_n 0, 1) := by decide +kernel
theorem d_Groups_named_20 : decode b_Groups_named 20 = .ok (.getfield 24, 3) := by decide +kernel
theorem d_Groups_named_23 : decode b_Groups_named 23 = .ok (.iload 5, 2) := by decide +kernel
theorem d_Groups_named_25 : decode b_Groups_named 25 = .ok (.invokevirtual 73, 3) := by decide +kernel
theorem d_Groups_named_28 : decode b_Groups_named 28 = .ok (.checkcast 77, 3) := by decide +kernel
theorem d_Groups_named_31 : decode b_Groups_named 31 = .ok (.astore 6, 2) := by decide +kernel
theorem d_Groups_named_33 : decode b_Groups_named 33 = .ok (.aload 6, 2) := by decide +kernel
theorem d_Groups_named_35 : decode b_Groups_named 35 = .ok (.aload_n 1, 1) := by decide +kernel
theorem d_Groups_named_36 : decode b_Groups_named 36 = .ok (.iload_n 2, 1) := by decide +kernel
theorem d_Groups_named_37 : decode b_Groups_named 37 = .ok (.iload_n 3, 1) := by decide +kernel
theorem d_Groups_named_38 : decode b_Groups_named 38 = .ok (.invokevirtual 82, 3) := by decide +kernel
theorem d_Groups_named_41 : decode b_Groups_named 41 = .ok (.ifCond .ne 6, 3) := by decide +kernel
theorem d_Groups_named_44 : decode b_Groups_named 44 = .ok (.goto 54, 3) := by decide +kernel
theorem d_Groups_named_47 : decode b_Groups_named 47 = .ok (.aload_n 0, 1) := by decide +kernel
theorem d_Groups_named_48 : decode b_Groups_named 48 = .ok (.getfield 17, 3) := by decide +kernel
theorem d_Groups_named_51 : decode b_Groups_named 51 = .ok (.aload 6, 2) := by decide +kernel
theorem d_Groups_named_53 : decode b_Groups_named 53 = .ok (.getfield 79, 3) := by decide +kernel
theorem d_Groups_named_56 : decode b_Groups_named 56 = .ok (.baload, 1) := by decide +kernel
theorem d_Groups_named_57 : decode b_Groups_named 57 = .ok (.ifCond .eq 31, 3) := by decide +kernel
theorem d_Groups_named_60 : decode b_Groups_named 60 = .ok (.iload 4, 2) := by decide +kernel
theorem d_Groups_named_62 : decode b_Groups_named 62 = .ok (.ifCond .ge 11, 3) := by decide +kernel
theorem d_Groups_named_65 : decode b_Groups_named 65 = .ok (.aload 6, 2) := by decide +kernel
theorem d_Groups_named_67 : decode b_Groups_named 67 = .ok (.getfield 79, 3) := by decide +kernel
theorem d_Groups_named_70 : decode b_Groups_named 70 = .ok (.goto 13, 3) := by decide +kernel
theorem d_Groups_named_73 : decode b_Groups_named 73 = .ok (.iload 4, 2) := by decide +kernel
theorem d_Groups_named_75 : decode b_Groups_named 75 = .ok (.aload 6, 2) := by decide +kernel
theorem d_Groups_named_77 : decode b_Groups_named 77 = .ok (.getfield 79, 3) := by decide +kernel
theorem d_Groups_named_80 : decode b_Groups_named 80 = .ok (.invokestatic 100, 3) := by decide +kernel
theorem d_Groups_named_83 : decode b_Groups_named 83 = .ok (.istore 4, 2) := by decide +kernel
theorem d_Groups_named_85 : decode b_Groups_named 85 = .ok (.goto 13, 3) := by decide +kernel
theorem d_Groups_named_88 : decode b_Groups_named 88 = .ok (.iload 4, 2) := by decide +kernel
theorem d_Groups_named_90 : decode b_Groups_named 90 = .ok (.bipush (-2), 2) := by decide +kernel
theorem d_Groups_named_92 : decode b_Groups_named 92 = .ok (.if_icmp .ne 6, 3) := by decide +kernel
theorem d_Groups_named_95 : decode b_Groups_named 95 = .ok (.iconst (-1), 1) := by decide +kernel
theorem d_Groups_named_96 : decode b_Groups_named 96 = .ok (.istore 4, 2) := by decide +kernel
theorem d_Groups_named_98 : decode b_Groups_named 98 = .ok (.iinc 5 1, 3) := by decide +kernel
theorem d_Groups_named_101 : decode b_Groups_named 101 = .ok (.goto (-94), 3) := by decide +kernel
theorem d_Groups_named_104 : decode b_Groups_named 104 = .ok (.iload 4, 2) := by decide +kernel
theorem d_Groups_named_106 : decode b_Groups_named 106 = .ok (.ireturn, 1) := by decide +kernel
abbrev b_Groups_textOf : ByteArray := prog_6_method_10_code
abbrev y_Groups_textOf : MethodName := ⟨"ReplacementWriter$Groups", "textOf", "(I)LReplacementWriter$Row;"⟩
theorem d_Groups_textOf_0 : decode b_Groups_textOf 0 = .ok (.aload_n 0, 1) := by decide +kernel
theorem d_Groups_textOf_1 : decode b_Groups_textOf 1 = .ok (.getfield 11, 3) := by decide +kernel
theorem d_Groups_textOf_4 : decode b_Groups_textOf 4 = .ok (.iload_n 1, 1) := by decide +kernel
theorem d_Groups_textOf_5 : decode b_Groups_textOf 5 = .ok (.aaload, 1) := by decide +kernel
theorem d_Groups_textOf_6 : decode b_Groups_textOf 6 = .ok (.areturn, 1) := by decide +kernel
abbrev b_Output_turnFromHere : ByteArray := prog_8_method_5_code
abbrev y_Output_turnFromHere : MethodName := ⟨"ReplacementWriter$Output", "turnFromHere", "(LReplacementWriter$Turn;)V"⟩
theorem d_Output_turnFromHere_0 : decode b_Output_turnFromHere 0 = .ok (.aload_n 0, 1) := by decide +kernel
theorem d_Output_turnFromHere_1 : decode b_Output_turnFromHere 1 = .ok (.aload_n 1, 1) := by decide +kernel
theorem d_Output_turnFromHere_2 : decode b_Output_turnFromHere 2 = .ok (.putfield 27, 3) := by decide +kernel
theorem d_Output_turnFromHere_5 : decode b_Output_turnFromHere 5 = .ok (.return_, 1) := by decide +kernel
abbrev b_Output_turnNext : ByteArray := prog_8_method_6_code
abbrev y_Output_turnNext : MethodName := ⟨"ReplacementWriter$Output", "turnNext", "(LReplacementWriter$Turn;)V"⟩
theorem d_Output_turnNext_0 : decode b_Output_turnNext 0 = .ok (.aload_n 0, 1) := by decide +kernel
theorem d_Output_turnNext_1 : decode b_Output_turnNext 1 = .ok (.aload_n 1, 1) := by decide +kernel
theorem d_Output_turnNext_2 : decode b_Output_turnNext 2 = .ok (.putfield 30, 3) := by decide +kernel
theorem d_Output_turnNext_5 : decode b_Output_turnNext 5 = .ok (.return_, 1) := by decide +kernel
abbrev b_Ascii_digit : ByteArray := prog_2_method_5_code
abbrev y_Ascii_digit : MethodName := ⟨"ReplacementWriter$Ascii", "digit", "(II)I"⟩
theorem d_Ascii_digit_0 : decode b_Ascii_digit 0 = .ok (.iconst (-1), 1) := by decide +kernel
theorem d_Ascii_digit_1 : decode b_Ascii_digit 1 = .ok (.istore_n 2, 1) := by decide +kernel
theorem d_Ascii_digit_2 : decode b_Ascii_digit 2 = .ok (.iload_n 0, 1) := by decide +kernel
theorem d_Ascii_digit_3 : decode b_Ascii_digit 3 = .ok (.bipush 48, 2) := by decide +kernel
theorem d_Ascii_digit_5 : decode b_Ascii_digit 5 = .ok (.if_icmp .lt 17, 3) := by decide +kernel
theorem d_Ascii_digit_8 : decode b_Ascii_digit 8 = .ok (.iload_n 0, 1) := by decide +kernel
theorem d_Ascii_digit_9 : decode b_Ascii_digit 9 = .ok (.bipush 57, 2) := by decide +kernel
theorem d_Ascii_digit_11 : decode b_Ascii_digit 11 = .ok (.if_icmp .gt 11, 3) := by decide +kernel
theorem d_Ascii_digit_14 : decode b_Ascii_digit 14 = .ok (.iload_n 0, 1) := by decide +kernel
theorem d_Ascii_digit_15 : decode b_Ascii_digit 15 = .ok (.bipush 48, 2) := by decide +kernel
theorem d_Ascii_digit_17 : decode b_Ascii_digit 17 = .ok (.isub, 1) := by decide +kernel
theorem d_Ascii_digit_18 : decode b_Ascii_digit 18 = .ok (.istore_n 2, 1) := by decide +kernel
theorem d_Ascii_digit_19 : decode b_Ascii_digit 19 = .ok (.goto 46, 3) := by decide +kernel
theorem d_Ascii_digit_22 : decode b_Ascii_digit 22 = .ok (.iload_n 0, 1) := by decide +kernel
theorem d_Ascii_digit_23 : decode b_Ascii_digit 23 = .ok (.bipush 97, 2) := by decide +kernel
theorem d_Ascii_digit_25 : decode b_Ascii_digit 25 = .ok (.if_icmp .lt 20, 3) := by decide +kernel
theorem d_Ascii_digit_28 : decode b_Ascii_digit 28 = .ok (.iload_n 0, 1) := by decide +kernel
theorem d_Ascii_digit_29 : decode b_Ascii_digit 29 = .ok (.bipush 102, 2) := by decide +kernel
theorem d_Ascii_digit_31 : decode b_Ascii_digit 31 = .ok (.if_icmp .gt 14, 3) := by decide +kernel
theorem d_Ascii_digit_34 : decode b_Ascii_digit 34 = .ok (.iload_n 0, 1) := by decide +kernel
theorem d_Ascii_digit_35 : decode b_Ascii_digit 35 = .ok (.bipush 97, 2) := by decide +kernel
theorem d_Ascii_digit_37 : decode b_Ascii_digit 37 = .ok (.isub, 1) := by decide +kernel
theorem d_Ascii_digit_38 : decode b_Ascii_digit 38 = .ok (.bipush 10, 2) := by decide +kernel
theorem d_Ascii_digit_40 : decode b_Ascii_digit 40 = .ok (.iadd, 1) := by decide +kernel
theorem d_Ascii_digit_41 : decode b_Ascii_digit 41 = .ok (.istore_n 2, 1) := by decide +kernel
theorem d_Ascii_digit_42 : decode b_Ascii_digit 42 = .ok (.goto 23, 3) := by decide +kernel
theorem d_Ascii_digit_45 : decode b_Ascii_digit 45 = .ok (.iload_n 0, 1) := by decide +kernel
theorem d_Ascii_digit_46 : decode b_Ascii_digit 46 = .ok (.bipush 65, 2) := by decide +kernel
theorem d_Ascii_digit_48 : decode b_Ascii_digit 48 = .ok (.if_icmp .lt 17, 3) := by decide +kernel
theorem d_Ascii_digit_51 : decode b_Ascii_digit 51 = .ok (.iload_n 0, 1) := by decide +kernel
theorem d_Ascii_digit_52 : decode b_Ascii_digit 52 = .ok (.bipush 70, 2) := by decide +kernel
theorem d_Ascii_digit_54 : decode b_Ascii_digit 54 = .ok (.if_icmp .gt 11, 3) := by decide +kernel
theorem d_Ascii_digit_57 : decode b_Ascii_digit 57 = .ok (.iload_n 0, 1) := by decide +kernel
theorem d_Ascii_digit_58 : decode b_Ascii_digit 58 = .ok (.bipush 65, 2) := by decide +kernel
theorem d_Ascii_digit_60 : decode b_Ascii_digit 60 = .ok (.isub, 1) := by decide +kernel
theorem d_Ascii_digit_61 : decode b_Ascii_digit 61 = .ok (.bipush 10, 2) := by decide +kernel
theorem d_Ascii_digit_63 : decode b_Ascii_digit 63 = .ok (.iadd, 1) := by decide +kernel
theorem d_Ascii_digit_64 : decode b_Ascii_digit 64 = .ok (.istore_n 2, 1) := by decide +kernel
theorem d_Ascii_digit_65 : decode b_Ascii_digit 65 = .ok (.iload_n 2, 1) := by decide +kernel
theorem d_Ascii_digit_66 : decode b_Ascii_digit 66 = .ok (.iload_n 1, 1) := by decide +kernel
theorem d_Ascii_digit_67 : decode b_Ascii_digit 67 = .ok (.if_icmp .ge 7, 3) := by decide +kernel
theorem d_Ascii_digit_70 : decode b_Ascii_digit 70 = .ok (.iload_n 2, 1) := by decide +kernel
theorem d_Ascii_digit_71 : decode b_Ascii_digit 71 = .ok (.goto 4, 3) := by decide +kernel
theorem d_Ascii_digit_74 : decode b_Ascii_digit 74 = .ok (.iconst (-1), 1) := by decide +kernel
theorem d_Ascii_digit_75 : decode b_Ascii_digit 75 = .ok (.ireturn, 1) := by decide +kernel
abbrev b_Output_isFull : ByteArray := prog_8_method_4_code
abbrev y_Output_isFull : MethodName := ⟨"ReplacementWriter$Output", "isFull", "()Z"⟩
theorem d_Output_isFull_0 : decode b_Output_isFull 0 = .ok (.aload_n 0, 1) := by decide +kernel
theorem d_Output_isFull_1 : decode b_Output_isFull 1 = .ok (.getfield 33, 3) := by decide +kernel
theorem d_Output_isFull_4 : decode b_Output_isFull 4 = .ok (.ireturn, 1) := by decide +kernel
end
section
/-! Codes and what decodes from them. Laid by mkbase.py. -/
abbrev b_Object_init : ByteArray := object_method_1_code
abbrev y_Object_init : MethodName := ⟨"java/lang/Object", "<init>", "()V"⟩
theorem d_Object_init_0 : decode b_Object_init 0 = .ok (.return_, 1) := by decide +kernel
abbrev b_ArrayList_init : ByteArray := prog_39_method_2_code
abbrev y_ArrayList_init : MethodName := ⟨"java/util/ArrayList", "<init>", "()V"⟩
theorem d_ArrayList_init_0 : decode b_ArrayList_init 0 = .ok (.aload_n 0, 1) := by decide +kernel
theorem d_ArrayList_init_1 : decode b_ArrayList_init 1 = .ok (.invokespecial 1, 3) := by decide +kernel
theorem d_ArrayList_init_4 : decode b_ArrayList_init 4 = .ok (.aload_n 0, 1) := by decide +kernel
theorem d_ArrayList_init_5 : decode b_ArrayList_init 5 = .ok (.getstatic 39, 3) := by decide +kernel
theorem d_ArrayList_init_8 : decode b_ArrayList_init 8 = .ok (.putfield 9, 3) := by decide +kernel
theorem d_ArrayList_init_11 : decode b_ArrayList_init 11 = .ok (.return_, 1) := by decide +kernel
abbrev b_AbstractList_init : ByteArray := prog_38_method_1_code
abbrev y_AbstractList_init : MethodName := ⟨"java/util/AbstractList", "<init>", "()V"⟩
theorem d_AbstractList_init_0 : decode b_AbstractList_init 0 = .ok (.aload_n 0, 1) := by decide +kernel
theorem d_AbstractList_init_1 : decode b_AbstractList_init 1 = .ok (.invokespecial 1, 3) := by decide +kernel
theorem d_AbstractList_init_4 : decode b_AbstractList_init 4 = .ok (.aload_n 0, 1) := by decide +kernel
theorem d_AbstractList_init_5 : decode b_AbstractList_init 5 = .ok (.iconst 0, 1) := by decide +kernel
theorem d_AbstractList_init_6 : decode b_AbstractList_init 6 = .ok (.putfield 7, 3) := by decide +kernel
theorem d_AbstractList_init_9 : decode b_AbstractList_init 9 = .ok (.return_, 1) := by decide +kernel
abbrev b_AbstractCollection_init : ByteArray := prog_37_method_1_code
abbrev y_AbstractCollection_init : MethodName := ⟨"java/util/AbstractCollection", "<init>", "()V"⟩
theorem d_AbstractCollection_init_0 : decode b_AbstractCollection_init 0 = .ok (.aload_n 0, 1) := by decide +kernel
theorem d_AbstractCollection_init_1 : decode b_AbstractCollection_init 1 = .ok (.invokespecial 1, 3) := by decide +kernel
theorem d_AbstractCollection_init_4 : decode b_AbstractCollection_init 4 = .ok (.return_, 1) := by decide +kernel
abbrev b_Throwable_init : ByteArray := prog_35_method_1_code
abbrev y_Throwable_init : MethodName := ⟨"java/lang/Throwable", "<init>", "()V"⟩
theorem d_Throwable_init_0 : decode b_Throwable_init 0 = .ok (.aload_n 0, 1) := by decide +kernel
theorem d_Throwable_init_1 : decode b_Throwable_init 1 = .ok (.invokespecial 1, 3) := by decide +kernel
theorem d_Throwable_init_4 : decode b_Throwable_init 4 = .ok (.aload_n 0, 1) := by decide +kernel
theorem d_Throwable_init_5 : decode b_Throwable_init 5 = .ok (.aload_n 0, 1) := by decide +kernel
theorem d_Throwable_init_6 : decode b_Throwable_init 6 = .ok (.putfield 7, 3) := by decide +kernel
theorem d_Throwable_init_9 : decode b_Throwable_init 9 = .ok (.aload_n 0, 1) := by decide +kernel
theorem d_Throwable_init_10 : decode b_Throwable_init 10 = .ok (.getstatic 13, 3) := by decide +kernel
theorem d_Throwable_init_13 : decode b_Throwable_init 13 = .ok (.putfield 17, 3) := by decide +kernel
theorem d_Throwable_init_16 : decode b_Throwable_init 16 = .ok (.aload_n 0, 1) := by decide +kernel
theorem d_Throwable_init_17 : decode b_Throwable_init 17 = .ok (.getstatic 20, 3) := by decide +kernel
theorem d_Throwable_init_20 : decode b_Throwable_init 20 = .ok (.putfield 24, 3) := by decide +kernel
theorem d_Throwable_init_23 : decode b_Throwable_init 23 = .ok (.aload_n 0, 1) := by decide +kernel
theorem d_Throwable_init_24 : decode b_Throwable_init 24 = .ok (.invokevirtual 27, 3) := by decide +kernel
theorem d_Throwable_init_27 : decode b_Throwable_init 27 = .ok (.pop, 1) := by decide +kernel
theorem d_Throwable_init_28 : decode b_Throwable_init 28 = .ok (.return_, 1) := by decide +kernel
abbrev b_Throwable_fillInStackTrace : ByteArray := prog_35_method_18_code
abbrev y_Throwable_fillInStackTrace : MethodName := ⟨"java/lang/Throwable", "fillInStackTrace", "()Ljava/lang/Throwable;"⟩
theorem d_Throwable_fillInStackTrace_0 : decode b_Throwable_fillInStackTrace 0 = .ok (.aload_n 0, 1) := by decide +kernel
theorem d_Throwable_fillInStackTrace_1 : decode b_Throwable_fillInStackTrace 1 = .ok (.getfield 17, 3) := by decide +kernel
theorem d_Throwable_fillInStackTrace_4 : decode b_Throwable_fillInStackTrace 4 = .ok (.ifnonnull 10, 3) := by decide +kernel
theorem d_Throwable_fillInStackTrace_7 : decode b_Throwable_fillInStackTrace 7 = .ok (.aload_n 0, 1) := by decide +kernel
theorem d_Throwable_fillInStackTrace_8 : decode b_Throwable_fillInStackTrace 8 = .ok (.getfield 198, 3) := by decide +kernel
theorem d_Throwable_fillInStackTrace_11 : decode b_Throwable_fillInStackTrace 11 = .ok (.ifnull 16, 3) := by decide +kernel
theorem d_Throwable_fillInStackTrace_14 : decode b_Throwable_fillInStackTrace 14 = .ok (.aload_n 0, 1) := by decide +kernel
theorem d_Throwable_fillInStackTrace_15 : decode b_Throwable_fillInStackTrace 15 = .ok (.iconst 0, 1) := by decide +kernel
theorem d_Throwable_fillInStackTrace_16 : decode b_Throwable_fillInStackTrace 16 = .ok (.invokevirtual 202, 3) := by decide +kernel
theorem d_Throwable_fillInStackTrace_19 : decode b_Throwable_fillInStackTrace 19 = .ok (.pop, 1) := by decide +kernel
theorem d_Throwable_fillInStackTrace_20 : decode b_Throwable_fillInStackTrace 20 = .ok (.aload_n 0, 1) := by decide +kernel
theorem d_Throwable_fillInStackTrace_21 : decode b_Throwable_fillInStackTrace 21 = .ok (.getstatic 13, 3) := by decide +kernel
theorem d_Throwable_fillInStackTrace_24 : decode b_Throwable_fillInStackTrace 24 = .ok (.putfield 17, 3) := by decide +kernel
theorem d_Throwable_fillInStackTrace_27 : decode b_Throwable_fillInStackTrace 27 = .ok (.aload_n 0, 1) := by decide +kernel
theorem d_Throwable_fillInStackTrace_28 : decode b_Throwable_fillInStackTrace 28 = .ok (.areturn, 1) := by decide +kernel
abbrev b_IllegalStateException_init : ByteArray := prog_23_method_1_code
abbrev y_IllegalStateException_init : MethodName := ⟨"java/lang/IllegalStateException", "<init>", "()V"⟩
theorem d_IllegalStateException_init_0 : decode b_IllegalStateException_init 0 = .ok (.aload_n 0, 1) := by decide +kernel
theorem d_IllegalStateException_init_1 : decode b_IllegalStateException_init 1 = .ok (.invokespecial 1, 3) := by decide +kernel
theorem d_IllegalStateException_init_4 : decode b_IllegalStateException_init 4 = .ok (.return_, 1) := by decide +kernel
abbrev b_RuntimeException_init : ByteArray := prog_30_method_1_code
abbrev y_RuntimeException_init : MethodName := ⟨"java/lang/RuntimeException", "<init>", "()V"⟩
theorem d_RuntimeException_init_0 : decode b_RuntimeException_init 0 = .ok (.aload_n 0, 1) := by decide +kernel
theorem d_RuntimeException_init_1 : decode b_RuntimeException_init 1 = .ok (.invokespecial 1, 3) := by decide +kernel
theorem d_RuntimeException_init_4 : decode b_RuntimeException_init 4 = .ok (.return_, 1) := by decide +kernel
abbrev b_Exception_init : ByteArray := prog_21_method_1_code
abbrev y_Exception_init : MethodName := ⟨"java/lang/Exception", "<init>", "()V"⟩
theorem d_Exception_init_0 : decode b_Exception_init 0 = .ok (.aload_n 0, 1) := by decide +kernel
theorem d_Exception_init_1 : decode b_Exception_init 1 = .ok (.invokespecial 1, 3) := by decide +kernel
theorem d_Exception_init_4 : decode b_Exception_init 4 = .ok (.return_, 1) := by decide +kernel
abbrev b_Arrays_copyOf_BI : ByteArray := prog_40_method_121_code
abbrev y_Arrays_copyOf_BI : MethodName := ⟨"java/util/Arrays", "copyOf", "([BI)[B"⟩
theorem d_Arrays_copyOf_BI_0 : decode b_Arrays_copyOf_BI 0 = .ok (.iload_n 1, 1) := by decide +kernel
theorem d_Arrays_copyOf_BI_1 : decode b_Arrays_copyOf_BI 1 = .ok (.aload_n 0, 1) := by decide +kernel
theorem d_Arrays_copyOf_BI_2 : decode b_Arrays_copyOf_BI 2 = .ok (.arraylength, 1) := by decide +kernel
theorem d_Arrays_copyOf_BI_3 : decode b_Arrays_copyOf_BI 3 = .ok (.if_icmp .ne 11, 3) := by decide +kernel
theorem d_Arrays_copyOf_BI_6 : decode b_Arrays_copyOf_BI 6 = .ok (.aload_n 0, 1) := by decide +kernel
theorem d_Arrays_copyOf_BI_7 : decode b_Arrays_copyOf_BI 7 = .ok (.invokevirtual 310, 3) := by decide +kernel
theorem d_Arrays_copyOf_BI_10 : decode b_Arrays_copyOf_BI 10 = .ok (.checkcast 311, 3) := by decide +kernel
theorem d_Arrays_copyOf_BI_13 : decode b_Arrays_copyOf_BI 13 = .ok (.areturn, 1) := by decide +kernel
theorem d_Arrays_copyOf_BI_14 : decode b_Arrays_copyOf_BI 14 = .ok (.iload_n 1, 1) := by decide +kernel
theorem d_Arrays_copyOf_BI_15 : decode b_Arrays_copyOf_BI 15 = .ok (.newarray .byte, 2) := by decide +kernel
theorem d_Arrays_copyOf_BI_17 : decode b_Arrays_copyOf_BI 17 = .ok (.astore_n 2, 1) := by decide +kernel
theorem d_Arrays_copyOf_BI_18 : decode b_Arrays_copyOf_BI 18 = .ok (.aload_n 0, 1) := by decide +kernel
theorem d_Arrays_copyOf_BI_19 : decode b_Arrays_copyOf_BI 19 = .ok (.iconst 0, 1) := by decide +kernel
theorem d_Arrays_copyOf_BI_20 : decode b_Arrays_copyOf_BI 20 = .ok (.aload_n 2, 1) := by decide +kernel
theorem d_Arrays_copyOf_BI_21 : decode b_Arrays_copyOf_BI 21 = .ok (.iconst 0, 1) := by decide +kernel
theorem d_Arrays_copyOf_BI_22 : decode b_Arrays_copyOf_BI 22 = .ok (.aload_n 0, 1) := by decide +kernel
theorem d_Arrays_copyOf_BI_23 : decode b_Arrays_copyOf_BI 23 = .ok (.arraylength, 1) := by decide +kernel
theorem d_Arrays_copyOf_BI_24 : decode b_Arrays_copyOf_BI 24 = .ok (.iload_n 1, 1) := by decide +kernel
theorem d_Arrays_copyOf_BI_25 : decode b_Arrays_copyOf_BI 25 = .ok (.invokestatic 304, 3) := by decide +kernel
theorem d_Arrays_copyOf_BI_28 : decode b_Arrays_copyOf_BI 28 = .ok (.invokestatic 150, 3) := by decide +kernel
theorem d_Arrays_copyOf_BI_31 : decode b_Arrays_copyOf_BI 31 = .ok (.aload_n 2, 1) := by decide +kernel
theorem d_Arrays_copyOf_BI_32 : decode b_Arrays_copyOf_BI 32 = .ok (.areturn, 1) := by decide +kernel
abbrev b_Math_min : ByteArray := prog_28_method_69_code
abbrev y_Math_min : MethodName := ⟨"java/lang/Math", "min", "(II)I"⟩
theorem d_Math_min_0 : decode b_Math_min 0 = .ok (.iload_n 0, 1) := by decide +kernel
theorem d_Math_min_1 : decode b_Math_min 1 = .ok (.iload_n 1, 1) := by decide +kernel
theorem d_Math_min_2 : decode b_Math_min 2 = .ok (.if_icmp .gt 7, 3) := by decide +kernel
theorem d_Math_min_5 : decode b_Math_min 5 = .ok (.iload_n 0, 1) := by decide +kernel
theorem d_Math_min_6 : decode b_Math_min 6 = .ok (.goto 4, 3) := by decide +kernel
theorem d_Math_min_9 : decode b_Math_min 9 = .ok (.iload_n 1, 1) := by decide +kernel
theorem d_Math_min_10 : decode b_Math_min 10 = .ok (.ireturn, 1) := by decide +kernel
abbrev b_IllegalArgumentException_init : ByteArray := prog_22_method_1_code
abbrev y_IllegalArgumentException_init : MethodName := ⟨"java/lang/IllegalArgumentException", "<init>", "()V"⟩
theorem d_IllegalArgumentException_init_0 : decode b_IllegalArgumentException_init 0 = .ok (.aload_n 0, 1) := by decide +kernel
theorem d_IllegalArgumentException_init_1 : decode b_IllegalArgumentException_init 1 = .ok (.invokespecial 1, 3) := by decide +kernel
theorem d_IllegalArgumentException_init_4 : decode b_IllegalArgumentException_init 4 = .ok (.return_, 1) := by decide +kernel
abbrev b_ArrayList_clear : ByteArray := prog_39_method_40_code
abbrev y_ArrayList_clear : MethodName := ⟨"java/util/ArrayList", "clear", "()V"⟩
theorem d_ArrayList_clear_0 : decode b_ArrayList_clear 0 = .ok (.aload_n 0, 1) := by decide +kernel
theorem d_ArrayList_clear_1 : decode b_ArrayList_clear 1 = .ok (.dup, 1) := by decide +kernel
theorem d_ArrayList_clear_2 : decode b_ArrayList_clear 2 = .ok (.getfield 63, 3) := by decide +kernel
theorem d_ArrayList_clear_5 : decode b_ArrayList_clear 5 = .ok (.iconst 1, 1) := by decide +kernel
theorem d_ArrayList_clear_6 : decode b_ArrayList_clear 6 = .ok (.iadd, 1) := by decide +kernel
theorem d_ArrayList_clear_7 : decode b_ArrayList_clear 7 = .ok (.putfield 63, 3) := by decide +kernel
theorem d_ArrayList_clear_10 : decode b_ArrayList_clear 10 = .ok (.aload_n 0, 1) := by decide +kernel
theorem d_ArrayList_clear_11 : decode b_ArrayList_clear 11 = .ok (.getfield 9, 3) := by decide +kernel
theorem d_ArrayList_clear_14 : decode b_ArrayList_clear 14 = .ok (.astore_n 1, 1) := by decide +kernel
theorem d_ArrayList_clear_15 : decode b_ArrayList_clear 15 = .ok (.aload_n 0, 1) := by decide +kernel
theorem d_ArrayList_clear_16 : decode b_ArrayList_clear 16 = .ok (.getfield 48, 3) := by decide +kernel
theorem d_ArrayList_clear_19 : decode b_ArrayList_clear 19 = .ok (.istore_n 2, 1) := by decide +kernel
theorem d_ArrayList_clear_20 : decode b_ArrayList_clear 20 = .ok (.aload_n 0, 1) := by decide +kernel
theorem d_ArrayList_clear_21 : decode b_ArrayList_clear 21 = .ok (.iconst 0, 1) := by decide +kernel
theorem d_ArrayList_clear_22 : decode b_ArrayList_clear 22 = .ok (.dup_x1, 1) := by decide +kernel
theorem d_ArrayList_clear_23 : decode b_ArrayList_clear 23 = .ok (.putfield 48, 3) := by decide +kernel
theorem d_ArrayList_clear_26 : decode b_ArrayList_clear 26 = .ok (.istore_n 3, 1) := by decide +kernel
theorem d_ArrayList_clear_27 : decode b_ArrayList_clear 27 = .ok (.iload_n 3, 1) := by decide +kernel
theorem d_ArrayList_clear_28 : decode b_ArrayList_clear 28 = .ok (.iload_n 2, 1) := by decide +kernel
theorem d_ArrayList_clear_29 : decode b_ArrayList_clear 29 = .ok (.if_icmp .ge 13, 3) := by decide +kernel
theorem d_ArrayList_clear_32 : decode b_ArrayList_clear 32 = .ok (.aload_n 1, 1) := by decide +kernel
theorem d_ArrayList_clear_33 : decode b_ArrayList_clear 33 = .ok (.iload_n 3, 1) := by decide +kernel
theorem d_ArrayList_clear_34 : decode b_ArrayList_clear 34 = .ok (.aconst_null, 1) := by decide +kernel
theorem d_ArrayList_clear_35 : decode b_ArrayList_clear 35 = .ok (.aastore, 1) := by decide +kernel
theorem d_ArrayList_clear_36 : decode b_ArrayList_clear 36 = .ok (.iinc 3 1, 3) := by decide +kernel
theorem d_ArrayList_clear_39 : decode b_ArrayList_clear 39 = .ok (.goto (-12), 3) := by decide +kernel
theorem d_ArrayList_clear_42 : decode b_ArrayList_clear 42 = .ok (.return_, 1) := by decide +kernel
abbrev b_Math_max : ByteArray := prog_28_method_65_code
abbrev y_Math_max : MethodName := ⟨"java/lang/Math", "max", "(II)I"⟩
theorem d_Math_max_0 : decode b_Math_max 0 = .ok (.iload_n 0, 1) := by decide +kernel
theorem d_Math_max_1 : decode b_Math_max 1 = .ok (.iload_n 1, 1) := by decide +kernel
theorem d_Math_max_2 : decode b_Math_max 2 = .ok (.if_icmp .lt 7, 3) := by decide +kernel
theorem d_Math_max_5 : decode b_Math_max 5 = .ok (.iload_n 0, 1) := by decide +kernel
theorem d_Math_max_6 : decode b_Math_max 6 = .ok (.goto 4, 3) := by decide +kernel
theorem d_Math_max_9 : decode b_Math_max 9 = .ok (.iload_n 1, 1) := by decide +kernel
theorem d_Math_max_10 : decode b_Math_max 10 = .ok (.ireturn, 1) := by decide +kernel
abbrev b_UnsupportedOperationException_init : ByteArray := prog_36_method_1_code
abbrev y_UnsupportedOperationException_init : MethodName := ⟨"java/lang/UnsupportedOperationException", "<init>", "()V"⟩
theorem d_UnsupportedOperationException_init_0 : decode b_UnsupportedOperationException_init 0 = .ok (.aload_n 0, 1) := by decide +kernel
theorem d_UnsupportedOperationException_init_1 : decode b_UnsupportedOperationException_init 1 = .ok (.invokespecial 1, 3) := by decide +kernel
theorem d_UnsupportedOperationException_init_4 : decode b_UnsupportedOperationException_init 4 = .ok (.return_, 1) := by decide +kernel
abbrev b_ArrayList_size : ByteArray := prog_39_method_8_code
abbrev y_ArrayList_size : MethodName := ⟨"java/util/ArrayList", "size", "()I"⟩
theorem d_ArrayList_size_0 : decode b_ArrayList_size 0 = .ok (.aload_n 0, 1) := by decide +kernel
theorem d_ArrayList_size_1 : decode b_ArrayList_size 1 = .ok (.getfield 48, 3) := by decide +kernel
theorem d_ArrayList_size_4 : decode b_ArrayList_size 4 = .ok (.ireturn, 1) := by decide +kernel
abbrev b_ArrayList_get : ByteArray := prog_39_method_20_code
abbrev y_ArrayList_get : MethodName := ⟨"java/util/ArrayList", "get", "(I)Ljava/lang/Object;"⟩
theorem d_ArrayList_get_0 : decode b_ArrayList_get 0 = .ok (.iload_n 1, 1) := by decide +kernel
theorem d_ArrayList_get_1 : decode b_ArrayList_get 1 = .ok (.aload_n 0, 1) := by decide +kernel
theorem d_ArrayList_get_2 : decode b_ArrayList_get 2 = .ok (.getfield 48, 3) := by decide +kernel
theorem d_ArrayList_get_5 : decode b_ArrayList_get 5 = .ok (.invokestatic 118, 3) := by decide +kernel
theorem d_ArrayList_get_8 : decode b_ArrayList_get 8 = .ok (.pop, 1) := by decide +kernel
theorem d_ArrayList_get_9 : decode b_ArrayList_get 9 = .ok (.aload_n 0, 1) := by decide +kernel
theorem d_ArrayList_get_10 : decode b_ArrayList_get 10 = .ok (.iload_n 1, 1) := by decide +kernel
theorem d_ArrayList_get_11 : decode b_ArrayList_get 11 = .ok (.invokevirtual 123, 3) := by decide +kernel
theorem d_ArrayList_get_14 : decode b_ArrayList_get 14 = .ok (.areturn, 1) := by decide +kernel
abbrev b_Objects_checkIndex : ByteArray := prog_43_method_17_code
abbrev y_Objects_checkIndex : MethodName := ⟨"java/util/Objects", "checkIndex", "(II)I"⟩
theorem d_Objects_checkIndex_0 : decode b_Objects_checkIndex 0 = .ok (.iload_n 0, 1) := by decide +kernel
theorem d_Objects_checkIndex_1 : decode b_Objects_checkIndex 1 = .ok (.iload_n 1, 1) := by decide +kernel
theorem d_Objects_checkIndex_2 : decode b_Objects_checkIndex 2 = .ok (.aconst_null, 1) := by decide +kernel
theorem d_Objects_checkIndex_3 : decode b_Objects_checkIndex 3 = .ok (.invokestatic 105, 3) := by decide +kernel
theorem d_Objects_checkIndex_6 : decode b_Objects_checkIndex 6 = .ok (.ireturn, 1) := by decide +kernel
abbrev b_Preconditions_checkIndex : ByteArray := prog_47_method_11_code
abbrev y_Preconditions_checkIndex : MethodName := ⟨"jdk/internal/util/Preconditions", "checkIndex", "(IILjava/util/function/BiFunction;)I"⟩
theorem d_Preconditions_checkIndex_0 : decode b_Preconditions_checkIndex 0 = .ok (.iload_n 0, 1) := by decide +kernel
theorem d_Preconditions_checkIndex_1 : decode b_Preconditions_checkIndex 1 = .ok (.ifCond .lt 8, 3) := by decide +kernel
theorem d_Preconditions_checkIndex_4 : decode b_Preconditions_checkIndex 4 = .ok (.iload_n 0, 1) := by decide +kernel
theorem d_Preconditions_checkIndex_5 : decode b_Preconditions_checkIndex 5 = .ok (.iload_n 1, 1) := by decide +kernel
theorem d_Preconditions_checkIndex_6 : decode b_Preconditions_checkIndex 6 = .ok (.if_icmp .lt 10, 3) := by decide +kernel
theorem d_Preconditions_checkIndex_9 : decode b_Preconditions_checkIndex 9 = .ok (.aload_n 2, 1) := by decide +kernel
theorem d_Preconditions_checkIndex_10 : decode b_Preconditions_checkIndex 10 = .ok (.iload_n 0, 1) := by decide +kernel
theorem d_Preconditions_checkIndex_11 : decode b_Preconditions_checkIndex 11 = .ok (.iload_n 1, 1) := by decide +kernel
theorem d_Preconditions_checkIndex_12 : decode b_Preconditions_checkIndex 12 = .ok (.invokestatic 95, 3) := by decide +kernel
theorem d_Preconditions_checkIndex_15 : decode b_Preconditions_checkIndex 15 = .ok (.athrow, 1) := by decide +kernel
theorem d_Preconditions_checkIndex_16 : decode b_Preconditions_checkIndex 16 = .ok (.iload_n 0, 1) := by decide +kernel
theorem d_Preconditions_checkIndex_17 : decode b_Preconditions_checkIndex 17 = .ok (.ireturn, 1) := by decide +kernel
abbrev b_ArrayList_elementData : ByteArray := prog_39_method_18_code
abbrev y_ArrayList_elementData : MethodName := ⟨"java/util/ArrayList", "elementData", "(I)Ljava/lang/Object;"⟩
theorem d_ArrayList_elementData_0 : decode b_ArrayList_elementData 0 = .ok (.aload_n 0, 1) := by decide +kernel
theorem d_ArrayList_elementData_1 : decode b_ArrayList_elementData 1 = .ok (.getfield 9, 3) := by decide +kernel
theorem d_ArrayList_elementData_4 : decode b_ArrayList_elementData 4 = .ok (.iload_n 1, 1) := by decide +kernel
theorem d_ArrayList_elementData_5 : decode b_ArrayList_elementData 5 = .ok (.aaload, 1) := by decide +kernel
theorem d_ArrayList_elementData_6 : decode b_ArrayList_elementData 6 = .ok (.areturn, 1) := by decide +kernel
abbrev b_ArrayList_add_LObject : ByteArray := prog_39_method_25_code
abbrev y_ArrayList_add_LObject : MethodName := ⟨"java/util/ArrayList", "add", "(Ljava/lang/Object;)Z"⟩
theorem d_ArrayList_add_LObject_0 : decode b_ArrayList_add_LObject 0 = .ok (.aload_n 0, 1) := by decide +kernel
theorem d_ArrayList_add_LObject_1 : decode b_ArrayList_add_LObject 1 = .ok (.dup, 1) := by decide +kernel
theorem d_ArrayList_add_LObject_2 : decode b_ArrayList_add_LObject 2 = .ok (.getfield 63, 3) := by decide +kernel
theorem d_ArrayList_add_LObject_5 : decode b_ArrayList_add_LObject 5 = .ok (.iconst 1, 1) := by decide +kernel
theorem d_ArrayList_add_LObject_6 : decode b_ArrayList_add_LObject 6 = .ok (.iadd, 1) := by decide +kernel
theorem d_ArrayList_add_LObject_7 : decode b_ArrayList_add_LObject 7 = .ok (.putfield 63, 3) := by decide +kernel
theorem d_ArrayList_add_LObject_10 : decode b_ArrayList_add_LObject 10 = .ok (.aload_n 0, 1) := by decide +kernel
theorem d_ArrayList_add_LObject_11 : decode b_ArrayList_add_LObject 11 = .ok (.aload_n 1, 1) := by decide +kernel
theorem d_ArrayList_add_LObject_12 : decode b_ArrayList_add_LObject 12 = .ok (.aload_n 0, 1) := by decide +kernel
theorem d_ArrayList_add_LObject_13 : decode b_ArrayList_add_LObject 13 = .ok (.getfield 9, 3) := by decide +kernel
theorem d_ArrayList_add_LObject_16 : decode b_ArrayList_add_LObject 16 = .ok (.aload_n 0, 1) := by decide +kernel
theorem d_ArrayList_add_LObject_17 : decode b_ArrayList_add_LObject 17 = .ok (.getfield 48, 3) := by decide +kernel
theorem d_ArrayList_add_LObject_20 : decode b_ArrayList_add_LObject 20 = .ok (.invokevirtual 131, 3) := by decide +kernel
theorem d_ArrayList_add_LObject_23 : decode b_ArrayList_add_LObject 23 = .ok (.iconst 1, 1) := by decide +kernel
theorem d_ArrayList_add_LObject_24 : decode b_ArrayList_add_LObject 24 = .ok (.ireturn, 1) := by decide +kernel
abbrev b_ArrayList_add_LObjectLObjectI : ByteArray := prog_39_method_24_code
abbrev y_ArrayList_add_LObjectLObjectI : MethodName := ⟨"java/util/ArrayList", "add", "(Ljava/lang/Object;[Ljava/lang/Object;I)V"⟩
theorem d_ArrayList_add_LObjectLObjectI_0 : decode b_ArrayList_add_LObjectLObjectI 0 = .ok (.iload_n 3, 1) := by decide +kernel
theorem d_ArrayList_add_LObjectLObjectI_1 : decode b_ArrayList_add_LObjectLObjectI 1 = .ok (.aload_n 2, 1) := by decide +kernel
theorem d_ArrayList_add_LObjectLObjectI_2 : decode b_ArrayList_add_LObjectLObjectI 2 = .ok (.arraylength, 1) := by decide +kernel
theorem d_ArrayList_add_LObjectLObjectI_3 : decode b_ArrayList_add_LObjectLObjectI 3 = .ok (.if_icmp .ne 8, 3) := by decide +kernel
theorem d_ArrayList_add_LObjectLObjectI_6 : decode b_ArrayList_add_LObjectLObjectI 6 = .ok (.aload_n 0, 1) := by decide +kernel
theorem d_ArrayList_add_LObjectLObjectI_7 : decode b_ArrayList_add_LObjectLObjectI 7 = .ok (.invokevirtual 129, 3) := by decide +kernel
theorem d_ArrayList_add_LObjectLObjectI_10 : decode b_ArrayList_add_LObjectLObjectI 10 = .ok (.astore_n 2, 1) := by decide +kernel
theorem d_ArrayList_add_LObjectLObjectI_11 : decode b_ArrayList_add_LObjectLObjectI 11 = .ok (.aload_n 2, 1) := by decide +kernel
theorem d_ArrayList_add_LObjectLObjectI_12 : decode b_ArrayList_add_LObjectLObjectI 12 = .ok (.iload_n 3, 1) := by decide +kernel
theorem d_ArrayList_add_LObjectLObjectI_13 : decode b_ArrayList_add_LObjectLObjectI 13 = .ok (.aload_n 1, 1) := by decide +kernel
theorem d_ArrayList_add_LObjectLObjectI_14 : decode b_ArrayList_add_LObjectLObjectI 14 = .ok (.aastore, 1) := by decide +kernel
theorem d_ArrayList_add_LObjectLObjectI_15 : decode b_ArrayList_add_LObjectLObjectI 15 = .ok (.aload_n 0, 1) := by decide +kernel
theorem d_ArrayList_add_LObjectLObjectI_16 : decode b_ArrayList_add_LObjectLObjectI 16 = .ok (.iload_n 3, 1) := by decide +kernel
theorem d_ArrayList_add_LObjectLObjectI_17 : decode b_ArrayList_add_LObjectLObjectI 17 = .ok (.iconst 1, 1) := by decide +kernel
theorem d_ArrayList_add_LObjectLObjectI_18 : decode b_ArrayList_add_LObjectLObjectI 18 = .ok (.iadd, 1) := by decide +kernel
theorem d_ArrayList_add_LObjectLObjectI_19 : decode b_ArrayList_add_LObjectLObjectI 19 = .ok (.putfield 48, 3) := by decide +kernel
theorem d_ArrayList_add_LObjectLObjectI_22 : decode b_ArrayList_add_LObjectLObjectI 22 = .ok (.return_, 1) := by decide +kernel
abbrev b_ArrayList_grow_ : ByteArray := prog_39_method_7_code
abbrev y_ArrayList_grow_ : MethodName := ⟨"java/util/ArrayList", "grow", "()[Ljava/lang/Object;"⟩
theorem d_ArrayList_grow__0 : decode b_ArrayList_grow_ 0 = .ok (.aload_n 0, 1) := by decide +kernel
theorem d_ArrayList_grow__1 : decode b_ArrayList_grow_ 1 = .ok (.aload_n 0, 1) := by decide +kernel
theorem d_ArrayList_grow__2 : decode b_ArrayList_grow_ 2 = .ok (.getfield 48, 3) := by decide +kernel
theorem d_ArrayList_grow__5 : decode b_ArrayList_grow_ 5 = .ok (.iconst 1, 1) := by decide +kernel
theorem d_ArrayList_grow__6 : decode b_ArrayList_grow_ 6 = .ok (.iadd, 1) := by decide +kernel
theorem d_ArrayList_grow__7 : decode b_ArrayList_grow_ 7 = .ok (.invokevirtual 69, 3) := by decide +kernel
theorem d_ArrayList_grow__10 : decode b_ArrayList_grow_ 10 = .ok (.areturn, 1) := by decide +kernel
abbrev b_ArrayList_grow_I : ByteArray := prog_39_method_6_code
abbrev y_ArrayList_grow_I : MethodName := ⟨"java/util/ArrayList", "grow", "(I)[Ljava/lang/Object;"⟩
theorem d_ArrayList_grow_I_0 : decode b_ArrayList_grow_I 0 = .ok (.aload_n 0, 1) := by decide +kernel
theorem d_ArrayList_grow_I_1 : decode b_ArrayList_grow_I 1 = .ok (.getfield 9, 3) := by decide +kernel
theorem d_ArrayList_grow_I_4 : decode b_ArrayList_grow_I 4 = .ok (.arraylength, 1) := by decide +kernel
theorem d_ArrayList_grow_I_5 : decode b_ArrayList_grow_I 5 = .ok (.istore_n 2, 1) := by decide +kernel
theorem d_ArrayList_grow_I_6 : decode b_ArrayList_grow_I 6 = .ok (.iload_n 2, 1) := by decide +kernel
theorem d_ArrayList_grow_I_7 : decode b_ArrayList_grow_I 7 = .ok (.ifCond .gt 13, 3) := by decide +kernel
theorem d_ArrayList_grow_I_10 : decode b_ArrayList_grow_I 10 = .ok (.aload_n 0, 1) := by decide +kernel
theorem d_ArrayList_grow_I_11 : decode b_ArrayList_grow_I 11 = .ok (.getfield 9, 3) := by decide +kernel
theorem d_ArrayList_grow_I_14 : decode b_ArrayList_grow_I 14 = .ok (.getstatic 39, 3) := by decide +kernel
theorem d_ArrayList_grow_I_17 : decode b_ArrayList_grow_I 17 = .ok (.if_acmp .eq 28, 3) := by decide +kernel
theorem d_ArrayList_grow_I_20 : decode b_ArrayList_grow_I 20 = .ok (.iload_n 2, 1) := by decide +kernel
theorem d_ArrayList_grow_I_21 : decode b_ArrayList_grow_I 21 = .ok (.iload_n 1, 1) := by decide +kernel
theorem d_ArrayList_grow_I_22 : decode b_ArrayList_grow_I 22 = .ok (.iload_n 2, 1) := by decide +kernel
theorem d_ArrayList_grow_I_23 : decode b_ArrayList_grow_I 23 = .ok (.isub, 1) := by decide +kernel
theorem d_ArrayList_grow_I_24 : decode b_ArrayList_grow_I 24 = .ok (.iload_n 2, 1) := by decide +kernel
theorem d_ArrayList_grow_I_25 : decode b_ArrayList_grow_I 25 = .ok (.iconst 1, 1) := by decide +kernel
theorem d_ArrayList_grow_I_26 : decode b_ArrayList_grow_I 26 = .ok (.ishr, 1) := by decide +kernel
theorem d_ArrayList_grow_I_27 : decode b_ArrayList_grow_I 27 = .ok (.invokestatic 73, 3) := by decide +kernel
theorem d_ArrayList_grow_I_30 : decode b_ArrayList_grow_I 30 = .ok (.istore_n 3, 1) := by decide +kernel
theorem d_ArrayList_grow_I_31 : decode b_ArrayList_grow_I 31 = .ok (.aload_n 0, 1) := by decide +kernel
theorem d_ArrayList_grow_I_32 : decode b_ArrayList_grow_I 32 = .ok (.aload_n 0, 1) := by decide +kernel
theorem d_ArrayList_grow_I_33 : decode b_ArrayList_grow_I 33 = .ok (.getfield 9, 3) := by decide +kernel
theorem d_ArrayList_grow_I_36 : decode b_ArrayList_grow_I 36 = .ok (.iload_n 3, 1) := by decide +kernel
theorem d_ArrayList_grow_I_37 : decode b_ArrayList_grow_I 37 = .ok (.invokestatic 66, 3) := by decide +kernel
theorem d_ArrayList_grow_I_40 : decode b_ArrayList_grow_I 40 = .ok (.dup_x1, 1) := by decide +kernel
theorem d_ArrayList_grow_I_41 : decode b_ArrayList_grow_I 41 = .ok (.putfield 9, 3) := by decide +kernel
theorem d_ArrayList_grow_I_44 : decode b_ArrayList_grow_I 44 = .ok (.areturn, 1) := by decide +kernel
theorem d_ArrayList_grow_I_45 : decode b_ArrayList_grow_I 45 = .ok (.aload_n 0, 1) := by decide +kernel
theorem d_ArrayList_grow_I_46 : decode b_ArrayList_grow_I 46 = .ok (.bipush 10, 2) := by decide +kernel
theorem d_ArrayList_grow_I_48 : decode b_ArrayList_grow_I 48 = .ok (.iload_n 1, 1) := by decide +kernel
theorem d_ArrayList_grow_I_49 : decode b_ArrayList_grow_I 49 = .ok (.invokestatic 79, 3) := by decide +kernel
theorem d_ArrayList_grow_I_52 : decode b_ArrayList_grow_I 52 = .ok (.anewarray 7, 3) := by decide +kernel
theorem d_ArrayList_grow_I_55 : decode b_ArrayList_grow_I 55 = .ok (.dup_x1, 1) := by decide +kernel
theorem d_ArrayList_grow_I_56 : decode b_ArrayList_grow_I 56 = .ok (.putfield 9, 3) := by decide +kernel
theorem d_ArrayList_grow_I_59 : decode b_ArrayList_grow_I 59 = .ok (.areturn, 1) := by decide +kernel
abbrev b_ArraysSupport_newLength : ByteArray := prog_46_method_27_code
abbrev y_ArraysSupport_newLength : MethodName := ⟨"jdk/internal/util/ArraysSupport", "newLength", "(III)I"⟩
theorem d_ArraysSupport_newLength_0 : decode b_ArraysSupport_newLength 0 = .ok (.iload_n 0, 1) := by decide +kernel
theorem d_ArraysSupport_newLength_1 : decode b_ArraysSupport_newLength 1 = .ok (.iload_n 1, 1) := by decide +kernel
theorem d_ArraysSupport_newLength_2 : decode b_ArraysSupport_newLength 2 = .ok (.iload_n 2, 1) := by decide +kernel
theorem d_ArraysSupport_newLength_3 : decode b_ArraysSupport_newLength 3 = .ok (.invokestatic 194, 3) := by decide +kernel
theorem d_ArraysSupport_newLength_6 : decode b_ArraysSupport_newLength 6 = .ok (.iadd, 1) := by decide +kernel
theorem d_ArraysSupport_newLength_7 : decode b_ArraysSupport_newLength 7 = .ok (.istore_n 3, 1) := by decide +kernel
theorem d_ArraysSupport_newLength_8 : decode b_ArraysSupport_newLength 8 = .ok (.iconst 0, 1) := by decide +kernel
theorem d_ArraysSupport_newLength_9 : decode b_ArraysSupport_newLength 9 = .ok (.iload_n 3, 1) := by decide +kernel
theorem d_ArraysSupport_newLength_10 : decode b_ArraysSupport_newLength 10 = .ok (.if_icmp .ge 11, 3) := by decide +kernel
theorem d_ArraysSupport_newLength_13 : decode b_ArraysSupport_newLength 13 = .ok (.iload_n 3, 1) := by decide +kernel
theorem d_ArraysSupport_newLength_14 : decode b_ArraysSupport_newLength 14 = .ok (.ldc 200, 2) := by decide +kernel
theorem d_ArraysSupport_newLength_16 : decode b_ArraysSupport_newLength 16 = .ok (.if_icmp .gt 5, 3) := by decide +kernel
theorem d_ArraysSupport_newLength_19 : decode b_ArraysSupport_newLength 19 = .ok (.iload_n 3, 1) := by decide +kernel
theorem d_ArraysSupport_newLength_20 : decode b_ArraysSupport_newLength 20 = .ok (.ireturn, 1) := by decide +kernel
theorem d_ArraysSupport_newLength_21 : decode b_ArraysSupport_newLength 21 = .ok (.iload_n 0, 1) := by decide +kernel
theorem d_ArraysSupport_newLength_22 : decode b_ArraysSupport_newLength 22 = .ok (.iload_n 1, 1) := by decide +kernel
theorem d_ArraysSupport_newLength_23 : decode b_ArraysSupport_newLength 23 = .ok (.invokestatic 201, 3) := by decide +kernel
theorem d_ArraysSupport_newLength_26 : decode b_ArraysSupport_newLength 26 = .ok (.ireturn, 1) := by decide +kernel
abbrev b_ArraysSupport_hugeLength : ByteArray := prog_46_method_28_code
abbrev y_ArraysSupport_hugeLength : MethodName := ⟨"jdk/internal/util/ArraysSupport", "hugeLength", "(II)I"⟩
theorem d_ArraysSupport_hugeLength_0 : decode b_ArraysSupport_hugeLength 0 = .ok (.iload_n 0, 1) := by decide +kernel
theorem d_ArraysSupport_hugeLength_1 : decode b_ArraysSupport_hugeLength 1 = .ok (.iload_n 1, 1) := by decide +kernel
theorem d_ArraysSupport_hugeLength_2 : decode b_ArraysSupport_hugeLength 2 = .ok (.iadd, 1) := by decide +kernel
theorem d_ArraysSupport_hugeLength_3 : decode b_ArraysSupport_hugeLength 3 = .ok (.istore_n 2, 1) := by decide +kernel
theorem d_ArraysSupport_hugeLength_4 : decode b_ArraysSupport_hugeLength 4 = .ok (.iload_n 2, 1) := by decide +kernel
theorem d_ArraysSupport_hugeLength_5 : decode b_ArraysSupport_hugeLength 5 = .ok (.ifCond .ge 44, 3) := by decide +kernel
theorem d_ArraysSupport_hugeLength_8 : decode b_ArraysSupport_hugeLength 8 = .ok (.new 204, 3) := by decide +kernel
theorem d_ArraysSupport_hugeLength_11 : decode b_ArraysSupport_hugeLength 11 = .ok (.dup, 1) := by decide +kernel
theorem d_ArraysSupport_hugeLength_12 : decode b_ArraysSupport_hugeLength 12 = .ok (.new 89, 3) := by decide +kernel
theorem d_ArraysSupport_hugeLength_15 : decode b_ArraysSupport_hugeLength 15 = .ok (.dup, 1) := by decide +kernel
theorem d_ArraysSupport_hugeLength_16 : decode b_ArraysSupport_hugeLength 16 = .ok (.invokespecial 91, 3) := by decide +kernel
theorem d_ArraysSupport_hugeLength_19 : decode b_ArraysSupport_hugeLength 19 = .ok (.ldc 206, 2) := by decide +kernel
theorem d_ArraysSupport_hugeLength_21 : decode b_ArraysSupport_hugeLength 21 = .ok (.invokevirtual 94, 3) := by decide +kernel
theorem d_ArraysSupport_hugeLength_24 : decode b_ArraysSupport_hugeLength 24 = .ok (.iload_n 0, 1) := by decide +kernel
theorem d_ArraysSupport_hugeLength_25 : decode b_ArraysSupport_hugeLength 25 = .ok (.invokevirtual 98, 3) := by decide +kernel
theorem d_ArraysSupport_hugeLength_28 : decode b_ArraysSupport_hugeLength 28 = .ok (.ldc 208, 2) := by decide +kernel
theorem d_ArraysSupport_hugeLength_30 : decode b_ArraysSupport_hugeLength 30 = .ok (.invokevirtual 94, 3) := by decide +kernel
theorem d_ArraysSupport_hugeLength_33 : decode b_ArraysSupport_hugeLength 33 = .ok (.iload_n 1, 1) := by decide +kernel
theorem d_ArraysSupport_hugeLength_34 : decode b_ArraysSupport_hugeLength 34 = .ok (.invokevirtual 98, 3) := by decide +kernel
theorem d_ArraysSupport_hugeLength_37 : decode b_ArraysSupport_hugeLength 37 = .ok (.ldc 210, 2) := by decide +kernel
theorem d_ArraysSupport_hugeLength_39 : decode b_ArraysSupport_hugeLength 39 = .ok (.invokevirtual 94, 3) := by decide +kernel
theorem d_ArraysSupport_hugeLength_42 : decode b_ArraysSupport_hugeLength 42 = .ok (.invokevirtual 101, 3) := by decide +kernel
theorem d_ArraysSupport_hugeLength_45 : decode b_ArraysSupport_hugeLength 45 = .ok (.invokespecial 212, 3) := by decide +kernel
theorem d_ArraysSupport_hugeLength_48 : decode b_ArraysSupport_hugeLength 48 = .ok (.athrow, 1) := by decide +kernel
theorem d_ArraysSupport_hugeLength_49 : decode b_ArraysSupport_hugeLength 49 = .ok (.iload_n 2, 1) := by decide +kernel
theorem d_ArraysSupport_hugeLength_50 : decode b_ArraysSupport_hugeLength 50 = .ok (.ldc 200, 2) := by decide +kernel
theorem d_ArraysSupport_hugeLength_52 : decode b_ArraysSupport_hugeLength 52 = .ok (.if_icmp .gt 6, 3) := by decide +kernel
theorem d_ArraysSupport_hugeLength_55 : decode b_ArraysSupport_hugeLength 55 = .ok (.ldc 200, 2) := by decide +kernel
theorem d_ArraysSupport_hugeLength_57 : decode b_ArraysSupport_hugeLength 57 = .ok (.ireturn, 1) := by decide +kernel
theorem d_ArraysSupport_hugeLength_58 : decode b_ArraysSupport_hugeLength 58 = .ok (.iload_n 2, 1) := by decide +kernel
theorem d_ArraysSupport_hugeLength_59 : decode b_ArraysSupport_hugeLength 59 = .ok (.ireturn, 1) := by decide +kernel
abbrev b_Arrays_copyOf_LObjectI : ByteArray := prog_40_method_119_code
abbrev y_Arrays_copyOf_LObjectI : MethodName := ⟨"java/util/Arrays", "copyOf", "([Ljava/lang/Object;I)[Ljava/lang/Object;"⟩
theorem d_Arrays_copyOf_LObjectI_0 : decode b_Arrays_copyOf_LObjectI 0 = .ok (.aload_n 0, 1) := by decide +kernel
theorem d_Arrays_copyOf_LObjectI_1 : decode b_Arrays_copyOf_LObjectI 1 = .ok (.iload_n 1, 1) := by decide +kernel
theorem d_Arrays_copyOf_LObjectI_2 : decode b_Arrays_copyOf_LObjectI 2 = .ok (.aload_n 0, 1) := by decide +kernel
theorem d_Arrays_copyOf_LObjectI_3 : decode b_Arrays_copyOf_LObjectI 3 = .ok (.invokevirtual 86, 3) := by decide +kernel
theorem d_Arrays_copyOf_LObjectI_6 : decode b_Arrays_copyOf_LObjectI 6 = .ok (.invokestatic 300, 3) := by decide +kernel
theorem d_Arrays_copyOf_LObjectI_9 : decode b_Arrays_copyOf_LObjectI 9 = .ok (.areturn, 1) := by decide +kernel
abbrev b_Arrays_copyOf_LObjectILClass : ByteArray := prog_40_method_120_code
abbrev y_Arrays_copyOf_LObjectILClass : MethodName := ⟨"java/util/Arrays", "copyOf", "([Ljava/lang/Object;ILjava/lang/Class;)[Ljava/lang/Object;"⟩
theorem d_Arrays_copyOf_LObjectILClass_0 : decode b_Arrays_copyOf_LObjectILClass 0 = .ok (.aload_n 2, 1) := by decide +kernel
theorem d_Arrays_copyOf_LObjectILClass_1 : decode b_Arrays_copyOf_LObjectILClass 1 = .ok (.ldc 110, 2) := by decide +kernel
theorem d_Arrays_copyOf_LObjectILClass_3 : decode b_Arrays_copyOf_LObjectILClass 3 = .ok (.if_acmp .ne 10, 3) := by decide +kernel
theorem d_Arrays_copyOf_LObjectILClass_6 : decode b_Arrays_copyOf_LObjectILClass 6 = .ok (.iload_n 1, 1) := by decide +kernel
theorem d_Arrays_copyOf_LObjectILClass_7 : decode b_Arrays_copyOf_LObjectILClass 7 = .ok (.anewarray 2, 3) := by decide +kernel
theorem d_Arrays_copyOf_LObjectILClass_10 : decode b_Arrays_copyOf_LObjectILClass 10 = .ok (.goto 14, 3) := by decide +kernel
theorem d_Arrays_copyOf_LObjectILClass_13 : decode b_Arrays_copyOf_LObjectILClass 13 = .ok (.aload_n 2, 1) := by decide +kernel
theorem d_Arrays_copyOf_LObjectILClass_14 : decode b_Arrays_copyOf_LObjectILClass 14 = .ok (.invokevirtual 90, 3) := by decide +kernel
theorem d_Arrays_copyOf_LObjectILClass_17 : decode b_Arrays_copyOf_LObjectILClass 17 = .ok (.iload_n 1, 1) := by decide +kernel
theorem d_Arrays_copyOf_LObjectILClass_18 : decode b_Arrays_copyOf_LObjectILClass 18 = .ok (.invokestatic 95, 3) := by decide +kernel
theorem d_Arrays_copyOf_LObjectILClass_21 : decode b_Arrays_copyOf_LObjectILClass 21 = .ok (.checkcast 110, 3) := by decide +kernel
theorem d_Arrays_copyOf_LObjectILClass_24 : decode b_Arrays_copyOf_LObjectILClass 24 = .ok (.astore_n 3, 1) := by decide +kernel
theorem d_Arrays_copyOf_LObjectILClass_25 : decode b_Arrays_copyOf_LObjectILClass 25 = .ok (.aload_n 0, 1) := by decide +kernel
theorem d_Arrays_copyOf_LObjectILClass_26 : decode b_Arrays_copyOf_LObjectILClass 26 = .ok (.iconst 0, 1) := by decide +kernel
theorem d_Arrays_copyOf_LObjectILClass_27 : decode b_Arrays_copyOf_LObjectILClass 27 = .ok (.aload_n 3, 1) := by decide +kernel
theorem d_Arrays_copyOf_LObjectILClass_28 : decode b_Arrays_copyOf_LObjectILClass 28 = .ok (.iconst 0, 1) := by decide +kernel
theorem d_Arrays_copyOf_LObjectILClass_29 : decode b_Arrays_copyOf_LObjectILClass 29 = .ok (.aload_n 0, 1) := by decide +kernel
theorem d_Arrays_copyOf_LObjectILClass_30 : decode b_Arrays_copyOf_LObjectILClass 30 = .ok (.arraylength, 1) := by decide +kernel
theorem d_Arrays_copyOf_LObjectILClass_31 : decode b_Arrays_copyOf_LObjectILClass 31 = .ok (.iload_n 1, 1) := by decide +kernel
theorem d_Arrays_copyOf_LObjectILClass_32 : decode b_Arrays_copyOf_LObjectILClass 32 = .ok (.invokestatic 304, 3) := by decide +kernel
theorem d_Arrays_copyOf_LObjectILClass_35 : decode b_Arrays_copyOf_LObjectILClass 35 = .ok (.invokestatic 150, 3) := by decide +kernel
theorem d_Arrays_copyOf_LObjectILClass_38 : decode b_Arrays_copyOf_LObjectILClass 38 = .ok (.aload_n 3, 1) := by decide +kernel
theorem d_Arrays_copyOf_LObjectILClass_39 : decode b_Arrays_copyOf_LObjectILClass 39 = .ok (.areturn, 1) := by decide +kernel
abbrev b_IndexOutOfBoundsException_init : ByteArray := prog_24_method_1_code
abbrev y_IndexOutOfBoundsException_init : MethodName := ⟨"java/lang/IndexOutOfBoundsException", "<init>", "()V"⟩
theorem d_IndexOutOfBoundsException_init_0 : decode b_IndexOutOfBoundsException_init 0 = .ok (.aload_n 0, 1) := by decide +kernel
theorem d_IndexOutOfBoundsException_init_1 : decode b_IndexOutOfBoundsException_init 1 = .ok (.invokespecial 1, 3) := by decide +kernel
theorem d_IndexOutOfBoundsException_init_4 : decode b_IndexOutOfBoundsException_init 4 = .ok (.return_, 1) := by decide +kernel
abbrev b_Integer_valueOf : ByteArray := prog_25_method_22_code
abbrev y_Integer_valueOf : MethodName := ⟨"java/lang/Integer", "valueOf", "(I)Ljava/lang/Integer;"⟩
theorem d_Integer_valueOf_0 : decode b_Integer_valueOf 0 = .ok (.iload_n 0, 1) := by decide +kernel
theorem d_Integer_valueOf_1 : decode b_Integer_valueOf 1 = .ok (.bipush (-128), 2) := by decide +kernel
theorem d_Integer_valueOf_3 : decode b_Integer_valueOf 3 = .ok (.if_icmp .lt 20, 3) := by decide +kernel
theorem d_Integer_valueOf_6 : decode b_Integer_valueOf 6 = .ok (.iload_n 0, 1) := by decide +kernel
theorem d_Integer_valueOf_7 : decode b_Integer_valueOf 7 = .ok (.getstatic 191, 3) := by decide +kernel
theorem d_Integer_valueOf_10 : decode b_Integer_valueOf 10 = .ok (.if_icmp .gt 13, 3) := by decide +kernel
theorem d_Integer_valueOf_13 : decode b_Integer_valueOf 13 = .ok (.getstatic 195, 3) := by decide +kernel
theorem d_Integer_valueOf_16 : decode b_Integer_valueOf 16 = .ok (.iload_n 0, 1) := by decide +kernel
theorem d_Integer_valueOf_17 : decode b_Integer_valueOf 17 = .ok (.sipush 128, 3) := by decide +kernel
theorem d_Integer_valueOf_20 : decode b_Integer_valueOf 20 = .ok (.iadd, 1) := by decide +kernel
theorem d_Integer_valueOf_21 : decode b_Integer_valueOf 21 = .ok (.aaload, 1) := by decide +kernel
theorem d_Integer_valueOf_22 : decode b_Integer_valueOf 22 = .ok (.areturn, 1) := by decide +kernel
theorem d_Integer_valueOf_23 : decode b_Integer_valueOf 23 = .ok (.new 1, 3) := by decide +kernel
theorem d_Integer_valueOf_26 : decode b_Integer_valueOf 26 = .ok (.dup, 1) := by decide +kernel
theorem d_Integer_valueOf_27 : decode b_Integer_valueOf 27 = .ok (.iload_n 0, 1) := by decide +kernel
theorem d_Integer_valueOf_28 : decode b_Integer_valueOf 28 = .ok (.invokespecial 199, 3) := by decide +kernel
theorem d_Integer_valueOf_31 : decode b_Integer_valueOf 31 = .ok (.areturn, 1) := by decide +kernel
abbrev b_Integer_init : ByteArray := prog_25_method_23_code
abbrev y_Integer_init : MethodName := ⟨"java/lang/Integer", "<init>", "(I)V"⟩
theorem d_Integer_init_0 : decode b_Integer_init 0 = .ok (.aload_n 0, 1) := by decide +kernel
theorem d_Integer_init_1 : decode b_Integer_init 1 = .ok (.invokespecial 202, 3) := by decide +kernel
theorem d_Integer_init_4 : decode b_Integer_init 4 = .ok (.aload_n 0, 1) := by decide +kernel
theorem d_Integer_init_5 : decode b_Integer_init 5 = .ok (.iload_n 1, 1) := by decide +kernel
theorem d_Integer_init_6 : decode b_Integer_init 6 = .ok (.putfield 205, 3) := by decide +kernel
theorem d_Integer_init_9 : decode b_Integer_init 9 = .ok (.return_, 1) := by decide +kernel
abbrev b_Number_init : ByteArray := prog_29_method_1_code
abbrev y_Number_init : MethodName := ⟨"java/lang/Number", "<init>", "()V"⟩
theorem d_Number_init_0 : decode b_Number_init 0 = .ok (.aload_n 0, 1) := by decide +kernel
theorem d_Number_init_1 : decode b_Number_init 1 = .ok (.invokespecial 1, 3) := by decide +kernel
theorem d_Number_init_4 : decode b_Number_init 4 = .ok (.return_, 1) := by decide +kernel
abbrev b_String_length : ByteArray := prog_31_method_54_code
abbrev y_String_length : MethodName := ⟨"java/lang/String", "length", "()I"⟩
theorem d_String_length_0 : decode b_String_length 0 = .ok (.aload_n 0, 1) := by decide +kernel
theorem d_String_length_1 : decode b_String_length 1 = .ok (.getfield 9, 3) := by decide +kernel
theorem d_String_length_4 : decode b_String_length 4 = .ok (.arraylength, 1) := by decide +kernel
theorem d_String_length_5 : decode b_String_length 5 = .ok (.aload_n 0, 1) := by decide +kernel
theorem d_String_length_6 : decode b_String_length 6 = .ok (.invokevirtual 335, 3) := by decide +kernel
theorem d_String_length_9 : decode b_String_length 9 = .ok (.ishr, 1) := by decide +kernel
theorem d_String_length_10 : decode b_String_length 10 = .ok (.ireturn, 1) := by decide +kernel
abbrev b_String_coder : ByteArray := prog_31_method_152_code
abbrev y_String_coder : MethodName := ⟨"java/lang/String", "coder", "()B"⟩
theorem d_String_coder_0 : decode b_String_coder 0 = .ok (.getstatic 38, 3) := by decide +kernel
theorem d_String_coder_3 : decode b_String_coder 3 = .ok (.ifCond .eq 10, 3) := by decide +kernel
theorem d_String_coder_6 : decode b_String_coder 6 = .ok (.aload_n 0, 1) := by decide +kernel
theorem d_String_coder_7 : decode b_String_coder 7 = .ok (.getfield 15, 3) := by decide +kernel
theorem d_String_coder_10 : decode b_String_coder 10 = .ok (.goto 4, 3) := by decide +kernel
theorem d_String_coder_13 : decode b_String_coder 13 = .ok (.iconst 1, 1) := by decide +kernel
theorem d_String_coder_14 : decode b_String_coder 14 = .ok (.ireturn, 1) := by decide +kernel
abbrev b_String_charAt : ByteArray := prog_31_method_56_code
abbrev y_String_charAt : MethodName := ⟨"java/lang/String", "charAt", "(I)C"⟩
theorem d_String_charAt_0 : decode b_String_charAt 0 = .ok (.aload_n 0, 1) := by decide +kernel
theorem d_String_charAt_1 : decode b_String_charAt 1 = .ok (.invokevirtual 492, 3) := by decide +kernel
theorem d_String_charAt_4 : decode b_String_charAt 4 = .ok (.ifCond .eq 12, 3) := by decide +kernel
theorem d_String_charAt_7 : decode b_String_charAt 7 = .ok (.aload_n 0, 1) := by decide +kernel
theorem d_String_charAt_8 : decode b_String_charAt 8 = .ok (.getfield 9, 3) := by decide +kernel
theorem d_String_charAt_11 : decode b_String_charAt 11 = .ok (.iload_n 1, 1) := by decide +kernel
theorem d_String_charAt_12 : decode b_String_charAt 12 = .ok (.invokestatic 495, 3) := by decide +kernel
theorem d_String_charAt_15 : decode b_String_charAt 15 = .ok (.ireturn, 1) := by decide +kernel
theorem d_String_charAt_16 : decode b_String_charAt 16 = .ok (.aload_n 0, 1) := by decide +kernel
theorem d_String_charAt_17 : decode b_String_charAt 17 = .ok (.getfield 9, 3) := by decide +kernel
theorem d_String_charAt_20 : decode b_String_charAt 20 = .ok (.iload_n 1, 1) := by decide +kernel
theorem d_String_charAt_21 : decode b_String_charAt 21 = .ok (.invokestatic 498, 3) := by decide +kernel
theorem d_String_charAt_24 : decode b_String_charAt 24 = .ok (.ireturn, 1) := by decide +kernel
abbrev b_String_isLatin1 : ByteArray := prog_31_method_154_code
abbrev y_String_isLatin1 : MethodName := ⟨"java/lang/String", "isLatin1", "()Z"⟩
theorem d_String_isLatin1_0 : decode b_String_isLatin1 0 = .ok (.getstatic 38, 3) := by decide +kernel
theorem d_String_isLatin1_3 : decode b_String_isLatin1 3 = .ok (.ifCond .eq 14, 3) := by decide +kernel
theorem d_String_isLatin1_6 : decode b_String_isLatin1 6 = .ok (.aload_n 0, 1) := by decide +kernel
theorem d_String_isLatin1_7 : decode b_String_isLatin1 7 = .ok (.getfield 15, 3) := by decide +kernel
theorem d_String_isLatin1_10 : decode b_String_isLatin1 10 = .ok (.ifCond .ne 7, 3) := by decide +kernel
theorem d_String_isLatin1_13 : decode b_String_isLatin1 13 = .ok (.iconst 1, 1) := by decide +kernel
theorem d_String_isLatin1_14 : decode b_String_isLatin1 14 = .ok (.goto 4, 3) := by decide +kernel
theorem d_String_isLatin1_17 : decode b_String_isLatin1 17 = .ok (.iconst 0, 1) := by decide +kernel
theorem d_String_isLatin1_18 : decode b_String_isLatin1 18 = .ok (.ireturn, 1) := by decide +kernel
abbrev b_StringLatin1_charAt : ByteArray := prog_32_method_2_code
abbrev y_StringLatin1_charAt : MethodName := ⟨"java/lang/StringLatin1", "charAt", "([BI)C"⟩
theorem d_StringLatin1_charAt_0 : decode b_StringLatin1_charAt 0 = .ok (.iload_n 1, 1) := by decide +kernel
theorem d_StringLatin1_charAt_1 : decode b_StringLatin1_charAt 1 = .ok (.aload_n 0, 1) := by decide +kernel
theorem d_StringLatin1_charAt_2 : decode b_StringLatin1_charAt 2 = .ok (.arraylength, 1) := by decide +kernel
theorem d_StringLatin1_charAt_3 : decode b_StringLatin1_charAt 3 = .ok (.invokestatic 9, 3) := by decide +kernel
theorem d_StringLatin1_charAt_6 : decode b_StringLatin1_charAt 6 = .ok (.aload_n 0, 1) := by decide +kernel
theorem d_StringLatin1_charAt_7 : decode b_StringLatin1_charAt 7 = .ok (.iload_n 1, 1) := by decide +kernel
theorem d_StringLatin1_charAt_8 : decode b_StringLatin1_charAt 8 = .ok (.baload, 1) := by decide +kernel
theorem d_StringLatin1_charAt_9 : decode b_StringLatin1_charAt 9 = .ok (.sipush 255, 3) := by decide +kernel
theorem d_StringLatin1_charAt_12 : decode b_StringLatin1_charAt 12 = .ok (.iand, 1) := by decide +kernel
theorem d_StringLatin1_charAt_13 : decode b_StringLatin1_charAt 13 = .ok (.i2c, 1) := by decide +kernel
theorem d_StringLatin1_charAt_14 : decode b_StringLatin1_charAt 14 = .ok (.ireturn, 1) := by decide +kernel
abbrev b_String_checkIndex : ByteArray := prog_31_method_155_code
abbrev y_String_checkIndex : MethodName := ⟨"java/lang/String", "checkIndex", "(II)V"⟩
theorem d_String_checkIndex_0 : decode b_String_checkIndex 0 = .ok (.iload_n 0, 1) := by decide +kernel
theorem d_String_checkIndex_1 : decode b_String_checkIndex 1 = .ok (.iload_n 1, 1) := by decide +kernel
theorem d_String_checkIndex_2 : decode b_String_checkIndex 2 = .ok (.getstatic 1053, 3) := by decide +kernel
theorem d_String_checkIndex_5 : decode b_String_checkIndex 5 = .ok (.invokestatic 1059, 3) := by decide +kernel
theorem d_String_checkIndex_8 : decode b_String_checkIndex 8 = .ok (.pop, 1) := by decide +kernel
theorem d_String_checkIndex_9 : decode b_String_checkIndex 9 = .ok (.return_, 1) := by decide +kernel
abbrev b_StringUTF16_charAt : ByteArray := prog_33_method_83_code
abbrev y_StringUTF16_charAt : MethodName := ⟨"java/lang/StringUTF16", "charAt", "([BI)C"⟩
theorem d_StringUTF16_charAt_0 : decode b_StringUTF16_charAt 0 = .ok (.iload_n 1, 1) := by decide +kernel
theorem d_StringUTF16_charAt_1 : decode b_StringUTF16_charAt 1 = .ok (.aload_n 0, 1) := by decide +kernel
theorem d_StringUTF16_charAt_2 : decode b_StringUTF16_charAt 2 = .ok (.invokestatic 67, 3) := by decide +kernel
theorem d_StringUTF16_charAt_5 : decode b_StringUTF16_charAt 5 = .ok (.aload_n 0, 1) := by decide +kernel
theorem d_StringUTF16_charAt_6 : decode b_StringUTF16_charAt 6 = .ok (.iload_n 1, 1) := by decide +kernel
theorem d_StringUTF16_charAt_7 : decode b_StringUTF16_charAt 7 = .ok (.invokestatic 71, 3) := by decide +kernel
theorem d_StringUTF16_charAt_10 : decode b_StringUTF16_charAt 10 = .ok (.ireturn, 1) := by decide +kernel
abbrev b_StringUTF16_checkIndex : ByteArray := prog_33_method_91_code
abbrev y_StringUTF16_checkIndex : MethodName := ⟨"java/lang/StringUTF16", "checkIndex", "(I[B)V"⟩
theorem d_StringUTF16_checkIndex_0 : decode b_StringUTF16_checkIndex 0 = .ok (.iload_n 0, 1) := by decide +kernel
theorem d_StringUTF16_checkIndex_1 : decode b_StringUTF16_checkIndex 1 = .ok (.aload_n 1, 1) := by decide +kernel
theorem d_StringUTF16_checkIndex_2 : decode b_StringUTF16_checkIndex 2 = .ok (.invokestatic 48, 3) := by decide +kernel
theorem d_StringUTF16_checkIndex_5 : decode b_StringUTF16_checkIndex 5 = .ok (.invokestatic 414, 3) := by decide +kernel
theorem d_StringUTF16_checkIndex_8 : decode b_StringUTF16_checkIndex 8 = .ok (.return_, 1) := by decide +kernel
abbrev b_StringUTF16_length : ByteArray := prog_33_method_6_code
abbrev y_StringUTF16_length : MethodName := ⟨"java/lang/StringUTF16", "length", "([B)I"⟩
theorem d_StringUTF16_length_0 : decode b_StringUTF16_length 0 = .ok (.aload_n 0, 1) := by decide +kernel
theorem d_StringUTF16_length_1 : decode b_StringUTF16_length 1 = .ok (.arraylength, 1) := by decide +kernel
theorem d_StringUTF16_length_2 : decode b_StringUTF16_length 2 = .ok (.iconst 1, 1) := by decide +kernel
theorem d_StringUTF16_length_3 : decode b_StringUTF16_length 3 = .ok (.ishr, 1) := by decide +kernel
theorem d_StringUTF16_length_4 : decode b_StringUTF16_length 4 = .ok (.ireturn, 1) := by decide +kernel
abbrev b_StringUTF16_getChar : ByteArray := prog_33_method_5_code
abbrev y_StringUTF16_getChar : MethodName := ⟨"java/lang/StringUTF16", "getChar", "([BI)C"⟩
theorem d_StringUTF16_getChar_0 : decode b_StringUTF16_getChar 0 = .ok (.getstatic 44, 3) := by decide +kernel
theorem d_StringUTF16_getChar_3 : decode b_StringUTF16_getChar 3 = .ok (.ifCond .ne 25, 3) := by decide +kernel
theorem d_StringUTF16_getChar_6 : decode b_StringUTF16_getChar 6 = .ok (.iload_n 1, 1) := by decide +kernel
theorem d_StringUTF16_getChar_7 : decode b_StringUTF16_getChar 7 = .ok (.ifCond .lt 11, 3) := by decide +kernel
theorem d_StringUTF16_getChar_10 : decode b_StringUTF16_getChar 10 = .ok (.iload_n 1, 1) := by decide +kernel
theorem d_StringUTF16_getChar_11 : decode b_StringUTF16_getChar 11 = .ok (.aload_n 0, 1) := by decide +kernel
theorem d_StringUTF16_getChar_12 : decode b_StringUTF16_getChar 12 = .ok (.invokestatic 48, 3) := by decide +kernel
theorem d_StringUTF16_getChar_15 : decode b_StringUTF16_getChar 15 = .ok (.if_icmp .lt 13, 3) := by decide +kernel
theorem d_StringUTF16_getChar_18 : decode b_StringUTF16_getChar 18 = .ok (.new 52, 3) := by decide +kernel
theorem d_StringUTF16_getChar_21 : decode b_StringUTF16_getChar 21 = .ok (.dup, 1) := by decide +kernel
theorem d_StringUTF16_getChar_22 : decode b_StringUTF16_getChar 22 = .ok (.ldc 54, 2) := by decide +kernel
theorem d_StringUTF16_getChar_24 : decode b_StringUTF16_getChar 24 = .ok (.invokespecial 56, 3) := by decide +kernel
theorem d_StringUTF16_getChar_27 : decode b_StringUTF16_getChar 27 = .ok (.athrow, 1) := by decide +kernel
theorem d_StringUTF16_getChar_28 : decode b_StringUTF16_getChar 28 = .ok (.iload_n 1, 1) := by decide +kernel
theorem d_StringUTF16_getChar_29 : decode b_StringUTF16_getChar 29 = .ok (.iconst 1, 1) := by decide +kernel
theorem d_StringUTF16_getChar_30 : decode b_StringUTF16_getChar 30 = .ok (.ishl, 1) := by decide +kernel
theorem d_StringUTF16_getChar_31 : decode b_StringUTF16_getChar 31 = .ok (.istore_n 1, 1) := by decide +kernel
theorem d_StringUTF16_getChar_32 : decode b_StringUTF16_getChar 32 = .ok (.aload_n 0, 1) := by decide +kernel
theorem d_StringUTF16_getChar_33 : decode b_StringUTF16_getChar 33 = .ok (.iload_n 1, 1) := by decide +kernel
theorem d_StringUTF16_getChar_34 : decode b_StringUTF16_getChar 34 = .ok (.iinc 1 1, 3) := by decide +kernel
theorem d_StringUTF16_getChar_37 : decode b_StringUTF16_getChar 37 = .ok (.baload, 1) := by decide +kernel
theorem d_StringUTF16_getChar_38 : decode b_StringUTF16_getChar 38 = .ok (.sipush 255, 3) := by decide +kernel
theorem d_StringUTF16_getChar_41 : decode b_StringUTF16_getChar 41 = .ok (.iand, 1) := by decide +kernel
theorem d_StringUTF16_getChar_42 : decode b_StringUTF16_getChar 42 = .ok (.getstatic 59, 3) := by decide +kernel
theorem d_StringUTF16_getChar_45 : decode b_StringUTF16_getChar 45 = .ok (.ishl, 1) := by decide +kernel
theorem d_StringUTF16_getChar_46 : decode b_StringUTF16_getChar 46 = .ok (.aload_n 0, 1) := by decide +kernel
theorem d_StringUTF16_getChar_47 : decode b_StringUTF16_getChar 47 = .ok (.iload_n 1, 1) := by decide +kernel
theorem d_StringUTF16_getChar_48 : decode b_StringUTF16_getChar 48 = .ok (.baload, 1) := by decide +kernel
theorem d_StringUTF16_getChar_49 : decode b_StringUTF16_getChar 49 = .ok (.sipush 255, 3) := by decide +kernel
theorem d_StringUTF16_getChar_52 : decode b_StringUTF16_getChar 52 = .ok (.iand, 1) := by decide +kernel
theorem d_StringUTF16_getChar_53 : decode b_StringUTF16_getChar 53 = .ok (.getstatic 63, 3) := by decide +kernel
theorem d_StringUTF16_getChar_56 : decode b_StringUTF16_getChar 56 = .ok (.ishl, 1) := by decide +kernel
theorem d_StringUTF16_getChar_57 : decode b_StringUTF16_getChar 57 = .ok (.ior, 1) := by decide +kernel
theorem d_StringUTF16_getChar_58 : decode b_StringUTF16_getChar 58 = .ok (.i2c, 1) := by decide +kernel
theorem d_StringUTF16_getChar_59 : decode b_StringUTF16_getChar 59 = .ok (.ireturn, 1) := by decide +kernel
abbrev b_Integer_intValue : ByteArray := prog_25_method_27_code
abbrev y_Integer_intValue : MethodName := ⟨"java/lang/Integer", "intValue", "()I"⟩
theorem d_Integer_intValue_0 : decode b_Integer_intValue 0 = .ok (.aload_n 0, 1) := by decide +kernel
theorem d_Integer_intValue_1 : decode b_Integer_intValue 1 = .ok (.getfield 205, 3) := by decide +kernel
theorem d_Integer_intValue_4 : decode b_Integer_intValue 4 = .ok (.ireturn, 1) := by decide +kernel
end
section
/-! Bits of whole numbers; longs. -/
theorem nI_or (a b : Nat) : nI a ||| nI b = nI (a ||| b) := by
  apply Int32.toBitVec.inj
  simp [nI, BitVec.ofNat_or]
theorem nI_and (a b : Nat) : nI a &&& nI b = nI (a &&& b) := by
  apply Int32.toBitVec.inj
  simp [nI, BitVec.ofNat_and]
theorem nI_xor (a b : Nat) : nI a ^^^ nI b = nI (a ^^^ b) := by
  apply Int32.toBitVec.inj
  simp [nI, BitVec.ofNat_xor]
theorem iI_orN (a b : Nat) : iI (a : Int) ||| iI (b : Int) = iI ((a ||| b : Nat) : Int) := by rw [← iI_nI, ← iI_nI, ← iI_nI, nI_or]
theorem iI_andN (a b : Nat) : iI (a : Int) &&& iI (b : Int) = iI ((a &&& b : Nat) : Int) := by rw [← iI_nI, ← iI_nI, ← iI_nI, nI_and]
theorem iI_xorN (a b : Nat) : iI (a : Int) ^^^ iI (b : Int) = iI ((a ^^^ b : Nat) : Int) := by rw [← iI_nI, ← iI_nI, ← iI_nI, nI_xor]
theorem iI_mask {a : Int} (k : Nat) (m M : Int) (h0 : 0 ≤ a) (hm : m = M - 1) (hM : M = 2 ^ k) : iI a &&& iI m = iI (a % M) := by
  obtain ⟨n, rfl⟩ := Int.eq_ofNat_of_zero_le h0
  have e : m = ((2 ^ k - 1 : Nat) : Int) := by
    rw [hm, hM, Int.ofNat_sub (Nat.one_le_two_pow)]
    simp
  rw [e, iI_andN, Nat.and_two_pow_sub_one_eq_mod, hM]
  simp
theorem iI_c0 {v : Int} (h0 : -1 ≤ v) (h1 : v < 256) : iI v &&& iI 192 = iI (v % 256 / 64 * 64) := by
  have key : ∀ n : Fin 257, iI ((n.val : Int) - 1) &&& iI 192 = iI (((n.val : Int) - 1) % 256 / 64 * 64) := by decide +kernel
  have := key ⟨(v + 1).toNat, by omega⟩
  rw [show (((v + 1).toNat : Nat) : Int) - 1 = v by omega] at this
  exact this
theorem iI_or6 {a b : Int} (h0 : 0 ≤ a) (h1 : 0 ≤ b) (h2 : b < 64) : iI (a * 64) ||| iI b = iI (a * 64 + b) := by
  obtain ⟨n, rfl⟩ := Int.eq_ofNat_of_zero_le h0
  obtain ⟨k, rfl⟩ := Int.eq_ofNat_of_zero_le h1
  have e := Nat.two_pow_add_eq_or_of_lt (i := 6) (b := k) (by omega) n
  rw [show ((n : Int) * 64) = ((2 ^ 6 * n : Nat) : Int) by push_cast; omega, iI_orN, ← e]
  congr 1
theorem iI_shl6 (a : Int) : iI a <<< (iI 6 &&& 31) = iI (a * 64) := by
  rw [show (iI 6 &&& 31) = (6 : Int32) by decide, show iI (a * 64) = iI a * iI 64 from (iI_mul a 64).symm]
  apply Int32.toBitVec.inj
  simp [Int32.toBitVec_shiftLeft, Int32.toBitVec_mul]
  rw [BitVec.shiftLeft_eq_mul_twoPow]
  congr 1
theorem iI_shrN {a : Int} (k : Nat) (b : Int) (h0 : 0 ≤ a) (h : a < 2147483648) (hs : ((iI b &&& 31).toBitVec.smod 32).toNat = k) : iI a >>> (iI b &&& 31) = iI (a / 2 ^ k) := by
  obtain ⟨n, rfl⟩ := Int.eq_ofNat_of_zero_le h0
  rw [← iI_nI, pk_shrN (by omega) _ k hs, iI_nI]
  congr 1
-- longs
def jL (z : Int) : Int64 := Int64.ofInt z
abbrev r64 (z : Int) : Prop := -9223372036854775808 ≤ z ∧ z < 9223372036854775808
theorem jL_toInt {z : Int} (h : r64 z) : (jL z).toInt = z := Int64.toInt_ofInt_of_le (by have := h.1; omega) (by have := h.2; omega)
theorem jL_add (a b : Int) : jL a + jL b = jL (a + b) := (Int64.ofInt_add a b).symm
theorem jL_mul (a b : Int) : jL a * jL b = jL (a * b) := (Int64.ofInt_mul a b).symm
theorem jL_i {z : Int} (h : r32 z) : (iI z).toInt64 = jL z := by
  apply Int64.toInt_inj.mp
  rw [Int32.toInt_toInt64, iI_toInt h, jL_toInt ⟨by omega, by omega⟩]
theorem jL_l (z : Int) : (jL z).toInt32 = iI z := Int64.toInt32_ofInt
theorem jL_eq {a b : Int} (ha : r64 a) (hb : r64 b) : jL a = jL b ↔ a = b := ⟨fun h => by have h2 := congrArg Int64.toInt h; rwa [jL_toInt ha, jL_toInt hb] at h2, fun h => h ▸ rfl⟩
theorem jL_lt {a b : Int} (ha : r64 a) (hb : r64 b) : jL a < jL b ↔ a < b := by rw [Int64.lt_iff_toInt_lt, jL_toInt ha, jL_toInt hb]
def zcmp (a b : Int) : Int := if b < a then 1 else if a = b then 0 else -1
theorem zcmp_r (a b : Int) : r32 (zcmp a b) := by unfold zcmp; split <;> (try split) <;> exact ⟨by decide, by decide⟩
theorem jL_cmp {a b : Int} (ha : r64 a) (hb : r64 b) : lg_cmp (jL a) (jL b) = iI (zcmp a b) := by
  unfold lg_cmp zcmp
  simp only [GT.gt, jL_lt hb ha, jL_eq ha hb]
  split
  · rfl
  · split <;> rfl
section ZJ
variable {p : Program} {l : Launch} {e : Env} {R : Room} {s : State} {m : MethodId} {args : Array Value} {below : List Frame} {meth : Method} {c : Code} {H : Heap} {locs : List Loc} {cells slots : Nat} {Q : State → Prop} {cc : ByteArray} {pc nL : Nat} {ls : Array Slot} {rest : List Value} {own : String}
theorem zl_if_eq (hx : p.tables.exec = Jvm.exec) (hb : c.code = cc) {a b : Int} {off : Int} {tgt : Nat} (hd0 : decode cc pc = .ok (.lcmp, 1)) (hd : decode cc (pc + 1) = .ok (.ifCond .eq off, 3)) (ht : ((pc + 1 : Nat) : Int) + off = (tgt : Int)) (ra : r64 a) (rb : r64 b) (kt : a = b → W p l e R s m args below meth c H locs cells slots Q (F0 m tgt ls rest)) (kf : a ≠ b → W p l e R s m args below meth c H locs cells slots Q (F0 m (pc + 4) ls rest)) : W p l e R s m args below meth c H locs cells slots Q (F0 m pc ls (.long (jL b) :: .long (jL a) :: rest)) := by
  refine W.lcmp hx hb hd0 ?_
  rw [jL_cmp ra rb]
  exact zi_if_eq hx hb hd ht (zcmp_r a b) (fun h => kt (by unfold zcmp at h; split at h <;> (try split at h) <;> omega)) (fun h => kf (by unfold zcmp at h; split at h <;> (try split at h) <;> omega))
theorem zl_if_ne (hx : p.tables.exec = Jvm.exec) (hb : c.code = cc) {a b : Int} {off : Int} {tgt : Nat} (hd0 : decode cc pc = .ok (.lcmp, 1)) (hd : decode cc (pc + 1) = .ok (.ifCond .ne off, 3)) (ht : ((pc + 1 : Nat) : Int) + off = (tgt : Int)) (ra : r64 a) (rb : r64 b) (kt : a ≠ b → W p l e R s m args below meth c H locs cells slots Q (F0 m tgt ls rest)) (kf : a = b → W p l e R s m args below meth c H locs cells slots Q (F0 m (pc + 4) ls rest)) : W p l e R s m args below meth c H locs cells slots Q (F0 m pc ls (.long (jL b) :: .long (jL a) :: rest)) := by
  refine W.lcmp hx hb hd0 ?_
  rw [jL_cmp ra rb]
  exact zi_if_ne hx hb hd ht (zcmp_r a b) (fun h => kt (by unfold zcmp at h; split at h <;> (try split at h) <;> omega)) (fun h => kf (by unfold zcmp at h; split at h <;> (try split at h) <;> omega))
theorem zl_if_lt (hx : p.tables.exec = Jvm.exec) (hb : c.code = cc) {a b : Int} {off : Int} {tgt : Nat} (hd0 : decode cc pc = .ok (.lcmp, 1)) (hd : decode cc (pc + 1) = .ok (.ifCond .lt off, 3)) (ht : ((pc + 1 : Nat) : Int) + off = (tgt : Int)) (ra : r64 a) (rb : r64 b) (kt : a < b → W p l e R s m args below meth c H locs cells slots Q (F0 m tgt ls rest)) (kf : b ≤ a → W p l e R s m args below meth c H locs cells slots Q (F0 m (pc + 4) ls rest)) : W p l e R s m args below meth c H locs cells slots Q (F0 m pc ls (.long (jL b) :: .long (jL a) :: rest)) := by
  refine W.lcmp hx hb hd0 ?_
  rw [jL_cmp ra rb]
  exact zi_if_lt hx hb hd ht (zcmp_r a b) (fun h => kt (by unfold zcmp at h; split at h <;> (try split at h) <;> omega)) (fun h => kf (by unfold zcmp at h; split at h <;> (try split at h) <;> omega))
theorem zl_if_ge (hx : p.tables.exec = Jvm.exec) (hb : c.code = cc) {a b : Int} {off : Int} {tgt : Nat} (hd0 : decode cc pc = .ok (.lcmp, 1)) (hd : decode cc (pc + 1) = .ok (.ifCond .ge off, 3)) (ht : ((pc + 1 : Nat) : Int) + off = (tgt : Int)) (ra : r64 a) (rb : r64 b) (kt : b ≤ a → W p l e R s m args below meth c H locs cells slots Q (F0 m tgt ls rest)) (kf : a < b → W p l e R s m args below meth c H locs cells slots Q (F0 m (pc + 4) ls rest)) : W p l e R s m args below meth c H locs cells slots Q (F0 m pc ls (.long (jL b) :: .long (jL a) :: rest)) := by
  refine W.lcmp hx hb hd0 ?_
  rw [jL_cmp ra rb]
  exact zi_if_ge hx hb hd ht (zcmp_r a b) (fun h => kt (by unfold zcmp at h; split at h <;> (try split at h) <;> omega)) (fun h => kf (by unfold zcmp at h; split at h <;> (try split at h) <;> omega))
theorem zl_if_gt (hx : p.tables.exec = Jvm.exec) (hb : c.code = cc) {a b : Int} {off : Int} {tgt : Nat} (hd0 : decode cc pc = .ok (.lcmp, 1)) (hd : decode cc (pc + 1) = .ok (.ifCond .gt off, 3)) (ht : ((pc + 1 : Nat) : Int) + off = (tgt : Int)) (ra : r64 a) (rb : r64 b) (kt : b < a → W p l e R s m args below meth c H locs cells slots Q (F0 m tgt ls rest)) (kf : a ≤ b → W p l e R s m args below meth c H locs cells slots Q (F0 m (pc + 4) ls rest)) : W p l e R s m args below meth c H locs cells slots Q (F0 m pc ls (.long (jL b) :: .long (jL a) :: rest)) := by
  refine W.lcmp hx hb hd0 ?_
  rw [jL_cmp ra rb]
  exact zi_if_gt hx hb hd ht (zcmp_r a b) (fun h => kt (by unfold zcmp at h; split at h <;> (try split at h) <;> omega)) (fun h => kf (by unfold zcmp at h; split at h <;> (try split at h) <;> omega))
theorem zl_if_le (hx : p.tables.exec = Jvm.exec) (hb : c.code = cc) {a b : Int} {off : Int} {tgt : Nat} (hd0 : decode cc pc = .ok (.lcmp, 1)) (hd : decode cc (pc + 1) = .ok (.ifCond .le off, 3)) (ht : ((pc + 1 : Nat) : Int) + off = (tgt : Int)) (ra : r64 a) (rb : r64 b) (kt : a ≤ b → W p l e R s m args below meth c H locs cells slots Q (F0 m tgt ls rest)) (kf : b < a → W p l e R s m args below meth c H locs cells slots Q (F0 m (pc + 4) ls rest)) : W p l e R s m args below meth c H locs cells slots Q (F0 m pc ls (.long (jL b) :: .long (jL a) :: rest)) := by
  refine W.lcmp hx hb hd0 ?_
  rw [jL_cmp ra rb]
  exact zi_if_le hx hb hd ht (zcmp_r a b) (fun h => kt (by unfold zcmp at h; split at h <;> (try split at h) <;> omega)) (fun h => kf (by unfold zcmp at h; split at h <;> (try split at h) <;> omega))
theorem zl_i2l (hx : p.tables.exec = Jvm.exec) (hb : c.code = cc) {a : Int} (hd : decode cc pc = .ok (.i2l, 1)) (ra : r32 a) (k : W p l e R s m args below meth c H locs cells slots Q (F0 m (pc + 1) ls (.long (jL a) :: rest))) : W p l e R s m args below meth c H locs cells slots Q (F0 m pc ls (.int (iI a) :: rest)) := lv_i2l hx hb hd (jL_i ra) k
theorem zl_l2i (hx : p.tables.exec = Jvm.exec) (hb : c.code = cc) {a : Int} (hd : decode cc pc = .ok (.l2i, 1)) (k : W p l e R s m args below meth c H locs cells slots Q (F0 m (pc + 1) ls (.int (iI a) :: rest))) : W p l e R s m args below meth c H locs cells slots Q (F0 m pc ls (.long (jL a) :: rest)) := lv_l2i hx hb hd (jL_l a) k
theorem zl_ladd (hx : p.tables.exec = Jvm.exec) (hb : c.code = cc) {a b : Int} (hd : decode cc pc = .ok (.ladd, 1)) (k : W p l e R s m args below meth c H locs cells slots Q (F0 m (pc + 1) ls (.long (jL (a + b)) :: rest))) : W p l e R s m args below meth c H locs cells slots Q (F0 m pc ls (.long (jL b) :: .long (jL a) :: rest)) := lv_ladd hx hb hd (by rw [jL_add]; exact k)
theorem zl_lmul (hx : p.tables.exec = Jvm.exec) (hb : c.code = cc) {a b : Int} (hd : decode cc pc = .ok (.lmul, 1)) (k : W p l e R s m args below meth c H locs cells slots Q (F0 m (pc + 1) ls (.long (jL (a * b)) :: rest))) : W p l e R s m args below meth c H locs cells slots Q (F0 m pc ls (.long (jL b) :: .long (jL a) :: rest)) := lv_lmul hx hb hd (by rw [jL_mul]; exact k)
theorem zl_lconst (hx : p.tables.exec = Jvm.exec) (hb : c.code = cc) {k : Fin 2} {a : Int} (hd : decode cc pc = .ok (.lconst k, 1)) (hv : Int64.ofNat k.val = jL a) (kk : W p l e R s m args below meth c H locs cells slots Q (F0 m (pc + 1) ls (.long (jL a) :: rest))) : W p l e R s m args below meth c H locs cells slots Q (F0 m pc ls rest) := lv_lconst hx hb hd hv kk
theorem zl_ldc2 {index : Nat} {v : Int64} {n : Int} (S : CallFix p m c cc nL s args zw own) (hk : Cond.constantLong own index v ∈ zw) (hv : v = jL n) (hd : decode cc pc = .ok (.ldc2_w index, 3)) (kk : W p l e R s m args below meth c H locs cells slots Q (F0 m (pc + 3) ls (.long (jL n) :: rest))) : W p l e R s m args below meth c H locs cells slots Q (F0 m pc ls rest) := by
  subst hv
  exact lv_ldc2 S.1 S.2.1 S.2.2.2.1 (S.2.2.2.2 _ hk) hd kk
end ZJ
end
section
/-! Writers: a method that changes the cells of its world, and makes new ones. -/
def zW (post : Option Value → Heap → Prop) (A : Nat → Prop) : Array Value → State → Outcome → State → Prop := fun _ st oc t => ∃ v, oc = .returned v ∧ post v t.heap ∧ va_F A st t
theorem bN_fit (b : Bool) : fits .boolean (.int (iI (bN b))) = true := by cases b <;> decide +kernel
theorem zA0 {E : zP} {ws : va_W} {s : State} {A : Nat → Prop} (hE : zE E s s.heap) (hD : va_D (zOld E) ws) (hA : va_A ws s.heap.size = A) : ∀ q, A q → zOld E q := by
  subst hA
  intro q h
  rcases h with ⟨k, e, h⟩ | h
  · exact hD.2 k _ h
  · exact Nat.le_trans hE.2.1 h
section ZW
variable {p : Program} {l : Launch} {e : Env} {R : Room} {s : State} {m : MethodId} {args : Array Value} {below : List Frame} {meth : Method} {c : Code} {H : Heap} {locs : List Loc} {cells slots : Nat} {Q : State → Prop} {cc : ByteArray} {pc nL : Nat} {ls : Array Slot} {rest st0 : List Value} {a : Array Value} {own : String} {Ts : List Cond} {A A0 A1 : Nat → Prop} {H0 : Heap} {mc ms : Nat} {free : Addr → Prop} {ws : va_W}
theorem zcW {post : Option Value → Heap → Prop} (hr : va_Run p l e R s m args below meth c H locs cells slots mc ms (F0 m pc ls st0) rest (zW post A1 a) free) (hS : va_S A0 H0 H locs) (hA : ∀ q, q < H.size → A1 q → A0 q) (hf : ∀ q, free q → A0 q)
    (kk : ∀ (v : Option Value) (H1 : Heap) (locs1 : List Loc), post v H1 → H.size ≤ H1.size → (∀ q : Nat, q < H.size → ¬ A1 q → H1[q]? = H[q]?) → va_S A0 H0 H1 locs1 → W p l e R s m args below meth c H1 locs1 (cells + mc) (slots + ms) Q (F0 m (pc + 3) ls (v.toList ++ rest))) : W p l e R s m args below meth c H locs cells slots Q (F0 m pc ls st0) := by
  intro T hT X
  obtain ⟨v, st₀, t, T', L, h0, X', hL, e1, e2, ⟨v', hv, hp, hz, hk⟩, st⟩ := hr T hT X
  cases hv
  rw [h0] at hz hk
  obtain ⟨t2, a1, b1⟩ := kk v T'.heap (locs ++ L) (by rw [e1]; exact hp) (by rw [e1]; exact hz) (fun q h1 h2 => by rw [e1]; exact hk q h1 h2)
    ⟨Nat.le_trans hS.1 (by rw [e1]; exact hz), fun q h1 h2 => by rw [e1, hk q (Nat.lt_of_lt_of_le h1 hS.1) (fun z => h2 (hA q (Nat.lt_of_lt_of_le h1 hS.1) z))]; exact hS.2.1 q h1 h2, fun q hq => by
      rcases List.mem_append.mp hq with h | h
      · exact hS.2.2 q h
      · exact hf _ (hL q h)⟩ T' rfl X'
  exact ⟨t2, st t2 a1, b1⟩
theorem zwv {post : Option Value → Heap → Prop} (S : CallFix p m c cc nL s args Ts own) (hr : meth.sig.returnType = none) (hlk : meth.locks = false) (hS : va_S A s.heap H locs) (hp : post none H) (hc : cells ≤ mc) (hs : slots ≤ ms) (hd : decode cc pc = .ok (.return_, 1)) : W p l e R s m args below meth c H locs cells slots (MQ below (zW post A) args s mc ms A) (F0 m pc ls []) := by
  refine W.widen (k := mc) (n := ms) hc hs ?_
  exact W.vret S.1 S.2.1 hr (fun t ht _ => ⟨_, rfl, by rw [ht]; exact hp, hS.F ht⟩) hS.2.2 hd (hlocks := hlk)
theorem zwi {v : Int32} {post : Option Value → Heap → Prop} (S : CallFix p m c cc nL s args Ts own) (hr : meth.sig.returnType = some .int) (hlk : meth.locks = false) (hS : va_S A s.heap H locs) (hp : post (some (.int v)) H) (hc : cells ≤ mc) (hs : slots ≤ ms) (hd : decode cc pc = .ok (.ireturn, 1)) : W p l e R s m args below meth c H locs cells slots (MQ below (zW post A) args s mc ms A) (F0 m pc ls [.int v]) := by
  refine W.widen (k := mc) (n := ms) hc hs ?_
  exact W.iret S.1 S.2.1 hr (fun t ht _ => ⟨_, rfl, by rw [ht]; exact hp, hS.F ht⟩) hS.2.2 hd (hlocks := hlk)
theorem zwz {b : Bool} {post : Option Value → Heap → Prop} (S : CallFix p m c cc nL s args Ts own) (hr : meth.sig.returnType = some .boolean) (hlk : meth.locks = false) (hS : va_S A s.heap H locs) (hp : post (some (.int (iI (bN b)))) H) (hc : cells ≤ mc) (hs : slots ≤ ms) (hd : decode cc pc = .ok (.ireturn, 1)) : W p l e R s m args below meth c H locs cells slots (MQ below (zW post A) args s mc ms A) (F0 m pc ls [.int (iI (bN b))]) := by
  refine W.widen (k := mc) (n := ms) hc hs ?_
  exact W.zret S.1 S.2.1 hr (bN_nar b) (fun t ht _ => ⟨_, rfl, by rw [ht]; exact hp, hS.F ht⟩) hS.2.2 hd (hlocks := hlk)
theorem zwa {x : Nat} {rt : FieldType} {post : Option Value → Heap → Prop} (S : CallFix p m c cc nL s args Ts own) (hr : meth.sig.returnType = some rt) (hrt : (∃ n, rt = .object n) ∨ ∃ t, rt = .array t) (hlk : meth.locks = false) (hS : va_S A s.heap H locs) (hp : post (some (.ref x)) H) (hc : cells ≤ mc) (hs : slots ≤ ms) (hd : decode cc pc = .ok (.areturn, 1)) : W p l e R s m args below meth c H locs cells slots (MQ below (zW post A) args s mc ms A) (F0 m pc ls [.ref x]) := by
  refine W.widen (k := mc) (n := ms) hc hs ?_
  exact W.aret S.1 S.2.1 hr hrt (Or.inr ⟨_, rfl⟩) (fun t ht _ => ⟨_, rfl, by rw [ht]; exact hp, hS.F ht⟩) hS.2.2 hd (hlocks := hlk)
-- arrays
theorem zbast {E : zP} {x n : Nat} {f : Nat → Int32} {i : Int} {v : Int32} (hx : p.tables.exec = Jvm.exec) (hb : c.code = cc) (hE : zE E s H) (hP : va_P E.1 zcl ws H) (hD : va_D A ws) (hS : va_S A H0 H locs) (q0 : Nat) (ha : ws[q0]? = some (x, .inl (E.2.1 0, n, .inl f))) (h0 : 0 ≤ i) (h1 : i < (n : Int)) (hn : n < 2147483648) (hd : decode cc pc = .ok (.bastore, 1))
    (kk : ∀ (H1 : Heap) (locs1 : List Loc), va_P E.1 zcl (ws.set q0 (x, .inl (E.2.1 0, n, .inl (upd f i.toNat (vp_nar .byte v))))) H1 → va_D A (ws.set q0 (x, .inl (E.2.1 0, n, .inl (upd f i.toNat (vp_nar .byte v))))) → va_S A H0 H1 locs1 → W p l e R s m args below meth c H1 locs1 cells slots Q (F0 m (pc + 1) ls rest)) : W p l e R s m args below meth c H locs cells slots Q (F0 m pc ls (.int v :: .int (iI i) :: .ref x :: rest)) :=
  va_bast hx hb hE.1 hP hD hS q0 0 ha rfl (iI_in h0 h1 hn) hd (by rw [iI_clamp h0 (by omega)]; exact kk)
theorem zzast {E : zP} {x n : Nat} {f : Nat → Int32} {i : Int} {v : Int32} (hx : p.tables.exec = Jvm.exec) (hb : c.code = cc) (hE : zE E s H) (hP : va_P E.1 zcl ws H) (hD : va_D A ws) (hS : va_S A H0 H locs) (q0 : Nat) (ha : ws[q0]? = some (x, .inl (E.2.1 1, n, .inl f))) (h0 : 0 ≤ i) (h1 : i < (n : Int)) (hn : n < 2147483648) (hd : decode cc pc = .ok (.bastore, 1))
    (kk : ∀ (H1 : Heap) (locs1 : List Loc), va_P E.1 zcl (ws.set q0 (x, .inl (E.2.1 1, n, .inl (upd f i.toNat (vp_nar .boolean v))))) H1 → va_D A (ws.set q0 (x, .inl (E.2.1 1, n, .inl (upd f i.toNat (vp_nar .boolean v))))) → va_S A H0 H1 locs1 → W p l e R s m args below meth c H1 locs1 cells slots Q (F0 m (pc + 1) ls rest)) : W p l e R s m args below meth c H locs cells slots Q (F0 m pc ls (.int v :: .int (iI i) :: .ref x :: rest)) :=
  va_zast hx hb hE.1 hP hD hS q0 1 ha rfl (iI_in h0 h1 hn) hd (by rw [iI_clamp h0 (by omega)]; exact kk)
theorem ziast {E : zP} {x n : Nat} {f : Nat → Int32} {i : Int} {v : Int32} (hx : p.tables.exec = Jvm.exec) (hb : c.code = cc) (hE : zE E s H) (hP : va_P E.1 zcl ws H) (hD : va_D A ws) (hS : va_S A H0 H locs) (q0 : Nat) (ha : ws[q0]? = some (x, .inl (E.2.1 2, n, .inl f))) (h0 : 0 ≤ i) (h1 : i < (n : Int)) (hn : n < 2147483648) (hd : decode cc pc = .ok (.iastore, 1))
    (kk : ∀ (H1 : Heap) (locs1 : List Loc), va_P E.1 zcl (ws.set q0 (x, .inl (E.2.1 2, n, .inl (upd f i.toNat v)))) H1 → va_D A (ws.set q0 (x, .inl (E.2.1 2, n, .inl (upd f i.toNat v)))) → va_S A H0 H1 locs1 → W p l e R s m args below meth c H1 locs1 cells slots Q (F0 m (pc + 1) ls rest)) : W p l e R s m args below meth c H locs cells slots Q (F0 m pc ls (.int v :: .int (iI i) :: .ref x :: rest)) :=
  va_iast hx hb hE.1 hP hD hS q0 2 ha rfl (iI_in h0 h1 hn) hd (by rw [iI_clamp h0 (by omega)]; exact kk)
theorem zalen {E : zP} {x n : Nat} {y : vp_A} (hx : p.tables.exec = Jvm.exec) (hb : c.code = cc) (hE : zE E s H) (t0 : Nat) (ht : t0 < 7) (hA : va_at E.1 zcl (x, .inl (E.2.1 t0, y)) H) (hy : y.1 = n) (hd : decode cc pc = .ok (.arraylength, 1)) (kk : W p l e R s m args below meth c H locs cells slots Q (F0 m (pc + 1) ls (.int (iI ((n : Nat) : Int)) :: rest))) : W p l e R s m args below meth c H locs cells slots Q (F0 m pc ls (.ref x :: rest)) := by
  have h7 : ∃ ty, (zty E.2.1)[t0]? = some (E.2.1 t0, ty) := by
    rcases (show t0 = 0 ∨ t0 = 1 ∨ t0 = 2 ∨ t0 = 3 ∨ t0 = 4 ∨ t0 = 5 ∨ t0 = 6 by omega) with rfl | rfl | rfl | rfl | rfl | rfl | rfl <;> exact ⟨_, rfl⟩
  obtain ⟨ty, h7⟩ := h7
  exact va_alen hx hb hE.1 (zP1 hA) 0 t0 rfl h7 (by rw [hy, ← iI_nI]; rfl) hd kk
theorem znewa {E : zP} {k N : Nat} {i : Int} {atype : ArrayType} {ty : FieldType} {a0 : vp_A} (S : CallFix p m c cc nL s args zw own) (hE : zE E s H) (harr : Cond.arrayClass (newarray.typeOf atype) ∈ zw) (hty : newarray.typeOf atype = ty) (hfc : ∀ cA, va_RA s cA ty → cA = E.2.1 k) (hP : va_P E.1 zcl ws H) (hD : va_D A ws) (hS : va_S A H0 H locs) (hA : ∀ q, H0.size ≤ q → A q) (ha : ∀ cA : ClassId, vp_cell cA a0 = arrV cA N (fun _ => defaultValue ty)) (h0 : 0 ≤ i) (h1 : i < 2147483648) (hN : i.toNat = N) (hbytes : N * componentBytes ty ≤ 536870912) (hcells : cells + 1 ≤ R.cells) (hslots : slots + N ≤ R.slots) (hd : decode cc pc = .ok (.newarray atype, 2))
    (kk : ∀ (q : Nat) (H1 : Heap), va_P E.1 zcl (ws ++ [(q, .inl (E.2.1 k, a0))]) H1 → va_D A (ws ++ [(q, .inl (E.2.1 k, a0))]) → va_S A H0 H1 locs → W p l e R s m args below meth c H1 locs (cells + 1) (slots + N) Q (F0 m (pc + 2) ls (.ref q :: rest))) : W p l e R s m args below meth c H locs cells slots Q (F0 m pc ls (.int (iI i) :: rest)) := by
  refine va_newa S.1 S.2.1 (S.2.2.2.2 _ harr) hty hE.1 hP hD hS hA ha ?_ (by rw [iI_clamp h0 h1]; exact hN) hbytes hcells hslots hd (fun q cA H1 hK1 hP1 hD1 hS1 => ?_)
  · rw [iI_0, iI_lt ⟨by omega, by omega⟩ r32_0]
    omega
  · have e := hfc cA ((hK1.2 7 _ rfl).2)
    subst e
    exact kk q H1 hP1 hD1 hS1
end ZW
theorem zfc0 {E : zP} {s : State} {H : Heap} (hE : zE E s H) : ∀ cA, va_RA s cA .byte → cA = E.2.1 0 := fun cA h => Option.some.inj ((show _ = _ from h).symm.trans (hE.1.2 0 _ rfl).2)
theorem zfc1 {E : zP} {s : State} {H : Heap} (hE : zE E s H) : ∀ cA, va_RA s cA .boolean → cA = E.2.1 1 := fun cA h => Option.some.inj ((show _ = _ from h).symm.trans (hE.1.2 1 _ rfl).2)
theorem zfc2 {E : zP} {s : State} {H : Heap} (hE : zE E s H) : ∀ cA, va_RA s cA .int → cA = E.2.1 2 := fun cA h => Option.some.inj ((show _ = _ from h).symm.trans (hE.1.2 2 _ rfl).2)
theorem zfc3 {E : zP} {s : State} {H : Heap} (hE : zE E s H) : ∀ cA, va_RA s cA .long → cA = E.2.1 3 := fun cA h => Option.some.inj ((show _ = _ from h).symm.trans (hE.1.2 3 _ rfl).2)
end
section
/-! More words. -/
theorem zw_323 : (Jvm.Cond.native ({ cls := "java/lang/Throwable", name := "fillInStackTrace", desc := "(I)Ljava/lang/Throwable;" } : Jvm.MethodName)) ∈ zw := zw_of (List.mem_of_getElem? (i := 323) (by decide +kernel)) (by decide +kernel)
theorem zw_359 : (Jvm.Cond.native ({ cls := "java/lang/Object", name := "clone", desc := "()Ljava/lang/Object;" } : Jvm.MethodName)) ∈ zw := zw_of (List.mem_of_getElem? (i := 359) (by decide +kernel)) (by decide +kernel)
theorem zw_369 : (Jvm.Cond.native ({ cls := "java/lang/System", name := "arraycopy", desc := "(Ljava/lang/Object;ILjava/lang/Object;II)V" } : Jvm.MethodName)) ∈ zw := zw_of (List.mem_of_getElem? (i := 369) (by decide +kernel)) (by decide +kernel)
theorem zw_622 : (Jvm.Cond.native ({ cls := "java/lang/Object", name := "getClass", desc := "()Ljava/lang/Class;" } : Jvm.MethodName)) ∈ zw := zw_of (List.mem_of_getElem? (i := 622) (by decide +kernel)) (by decide +kernel)
section ZC
variable {p : Program} {l : Launch} {e : Env} {R : Room} {s : State} {m : MethodId} {args : Array Value} {below : List Frame} {meth : Method} {c : Code} {H : Heap} {locs : List Loc} {cells slots : Nat} {Q : State → Prop} {cc : ByteArray} {pc nL : Nat} {ls : Array Slot} {rest : List Value} {own : String} {A : Nat → Prop} {H0 : Heap} {ws : va_W}
theorem zcopy {E : zP} {index a0 a1 n0 n1 : Nat} {f g : Nat → Int32} {ty : FieldType} {sp dp n : Int} (S : CallFix p m c cc nL s args zw own) (hlink : Cond.methodLink own index arraycopyName ∈ zw) (hE : zE E s H) (hP : va_P E.1 zcl ws H) (hD : va_D A ws) (hS : va_S A H0 H locs) (q0 q1 t : Nat) {k : ClassId} (ha0 : ws[q0]? = some (a0, .inl (k, n0, .inl f))) (ha1 : ws[q1]? = some (a1, .inl (k, n1, .inl g))) (ht0 : (zty E.2.1)[t]? = some (k, ty)) (ht1 : (zty E.2.1)[t]? = some (k, ty)) (hprim : refKind ty = false)
    (h1 : 0 ≤ sp) (h2 : 0 ≤ dp) (h3 : 0 ≤ n) (h4 : sp + n ≤ (n0 : Int) ∧ n0 < 2147483648) (h5 : dp + n ≤ (n1 : Int) ∧ n1 < 2147483648) (hfit : ∀ i, i < n.toNat → fits ty (.int (f (sp.toNat + i))) = true) (hls : ls.size = nL) (hframes : 1 ≤ R.frames) (hlocals : (rest.map fun v => v.category).sum + (nativeFrameWords "java/lang/System" "arraycopy" 5 + 11) ≤ R.locals) (hdg : decode cc pc = .ok (.invokestatic index, 3))
    (kk : ∀ (H1 : Heap) (locs1 : List Loc), va_P E.1 zcl (ws.set q1 (a1, .inl (k, n1, .inl (va_cpy f g sp.toNat dp.toNat n.toNat)))) H1 → va_D A (ws.set q1 (a1, .inl (k, n1, .inl (va_cpy f g sp.toNat dp.toNat n.toNat)))) → va_S A H0 H1 locs1 → W p l e R s m args below meth c H1 locs1 cells slots Q (F0 m (pc + 3) ls rest)) : W p l e R s m args below meth c H locs cells slots Q (F0 m pc ls (.int (iI n) :: .int (iI dp) :: .ref a1 :: .int (iI sp) :: .ref a0 :: rest)) := by
  have nn : ∀ z : Int, 0 ≤ z → z < 2147483648 → ¬ iI z < 0 := fun z h h' => by rw [iI_0, iI_lt ⟨by omega, by omega⟩ r32_0]; omega
  refine va_copyi S.1 S.2.1 (S.2.2.1.trans hls.symm) S.2.2.2.1 (S.2.2.2.2 _ hlink) (S.2.2.2.2 _ zw_369) (S.2.2.2.2 _ zw_368) (S.2.2.2.2 _ zw_24) hE.1 hP hD hS q0 q1 t t ha0 ha1 ht0 ht1 hprim (nn sp h1 (by omega)) (nn dp h2 (by omega)) (nn n h3 (by omega)) ?_ ?_ ?_ hframes hlocals hdg ?_
  · rw [iI_clamp h1 (by omega), iI_clamp h3 (by omega)]; omega
  · rw [iI_clamp h2 (by omega), iI_clamp h3 (by omega)]; omega
  · rw [iI_clamp h1 (by omega), iI_clamp h3 (by omega)]; exact hfit
  · rw [iI_clamp h1 (by omega), iI_clamp h2 (by omega), iI_clamp h3 (by omega)]; exact kk
end ZC
end
section
/-! The document's class as mathematics: bytes and characters, the table of case, the writing. Nothing here speaks of the machine. -/
-- characters and bytes
def sp_len (utf : Bool) (c : Nat) : Nat := if utf = false ∨ c < 128 then 1 else if c < 2048 then 2 else if c < 65536 then 3 else 4
def sp_enc (utf : Bool) (c : Nat) : List Nat :=
  if utf = false ∨ c < 128 then [c]
  else if c < 2048 then [192 + c / 64, 128 + c % 64]
  else if c < 65536 then [224 + c / 4096, 128 + c / 64 % 64, 128 + c % 64]
  else [240 + c / 262144, 128 + c / 4096 % 64, 128 + c / 64 % 64, 128 + c % 64]
def sp_encs (utf : Bool) (cs : List Nat) : List Nat := cs.flatMap (sp_enc utf)
def sp_ok (utf : Bool) (c : Nat) : Bool := if utf then decide (c ≤ 1114111 ∧ (c < 55296 ∨ 57343 < c)) else decide (c ≤ 255)
def sp_oks (utf : Bool) (cs : List Nat) : Prop := ∀ c ∈ cs, sp_ok utf c = true
def sp_lead (utf : Bool) (b : Nat) : Nat := if utf = false ∨ b < 128 then 1 else if b < 194 ∨ 244 < b then 0 else if b < 224 then 2 else if b < 240 then 3 else 4
-- the character that a lead byte and what is behind it make
def sp_b (l : List Nat) (k : Nat) : Nat := l.getD k 0
def sp_chr (utf : Bool) (l : List Nat) (k : Nat) : Nat :=
  let b := sp_b l k
  let n := sp_lead utf b
  if n = 2 then b % 32 * 64 + sp_b l (k + 1) % 64
  else if n = 3 then (b % 16 * 64 + sp_b l (k + 1) % 64) * 64 + sp_b l (k + 2) % 64
  else if n = 4 then ((b % 8 * 64 + sp_b l (k + 1) % 64) * 64 + sp_b l (k + 2) % 64) * 64 + sp_b l (k + 3) % 64
  else b
def sp_con (l : List Nat) (k : Nat) : Bool := decide (k < l.length ∧ 128 ≤ sp_b l k ∧ sp_b l k < 192)
-- is there a whole character at k? (k < l.length)
def sp_good (utf : Bool) (l : List Nat) (k : Nat) : Bool :=
  decide (sp_lead utf (sp_b l k) ≠ 0) && (decide (sp_lead utf (sp_b l k) < 2) || sp_con l (k + 1)) && (decide (sp_lead utf (sp_b l k) < 3) || sp_con l (k + 2)) && (decide (sp_lead utf (sp_b l k) < 4) || sp_con l (k + 3)) && sp_ok utf (sp_chr utf l k) && decide (sp_len utf (sp_chr utf l k) = sp_lead utf (sp_b l k))
-- from k on: the characters up to the first bad place, and that place (or -1)
def sp_dec (utf : Bool) (l : List Nat) : Nat → Nat → List Nat × Int
  | 0, _ => ([], -1)
  | f + 1, k => if l.length ≤ k then ([], -1) else if sp_good utf l k = true then (sp_chr utf l k :: (sp_dec utf l f (k + sp_lead utf (sp_b l k))).1, (sp_dec utf l f (k + sp_lead utf (sp_b l k))).2) else ([], (k : Int))
def sp_chars (utf : Bool) (l : List Nat) : List Nat := (sp_dec utf l l.length 0).1
def sp_fault (utf : Bool) (l : List Nat) : Int := (sp_dec utf l l.length 0).2
-- signs
def sp_see (t : List Nat) (k e : Nat) : Int := if k < e then (t.getD k 0 : Nat) else -1
def sp_dig (c : Int) : Bool := decide (48 ≤ c ∧ c ≤ 57)
def sp_let (c : Int) : Bool := decide ((97 ≤ c ∧ c ≤ 122) ∨ (65 ≤ c ∧ c ≤ 90))
def sp_wrd (c : Int) : Bool := sp_let c || sp_dig c || decide (c = 95)
def sp_val (c : Int) : Int := if 48 ≤ c ∧ c ≤ 57 then c - 48 else if 97 ≤ c ∧ c ≤ 102 then c - 87 else if 65 ≤ c ∧ c ≤ 70 then c - 55 else 99
-- the first place from k on that is e, or where p does not hold
def sp_run (p : Int → Bool) (t : List Nat) (e : Nat) : Nat → Nat → Nat
  | 0, k => k
  | f + 1, k => if k < e ∧ p (t.getD k 0 : Nat) = true then sp_run p t e f (k + 1) else k
def sp_to (p : Int → Bool) (t : List Nat) (k e : Nat) : Nat := sp_run p t e (e - k) k
-- case: of each row the first and the last upper one, the step, how far the lower one is, the ways (0 both, 1 up alone, 2 down alone)
abbrev sp_Row : Type := Int × Int × Int × Int × Int
def sp_rows : List sp_Row := [(65, 90, 1, 32, 0), (192, 214, 1, 32, 0), (216, 222, 1, 32, 0), (256, 302, 2, 1, 0), (306, 310, 2, 1, 0), (313, 327, 2, 1, 0), (330, 374, 2, 1, 0), (376, 376, 1, -121, 0), (377, 381, 2, 1, 0), (913, 929, 1, 32, 0), (931, 937, 1, 32, 0), (1024, 1039, 1, 80, 0), (1040, 1071, 1, 32, 0), (83, 83, 1, 300, 1), (924, 924, 1, -743, 1), (931, 931, 1, 31, 1), (8490, 8490, 1, -8383, 2), (8491, 8491, 1, -8262, 2)]
def sp_isUp (r : sp_Row) (x : Int) : Bool := decide (r.1 ≤ x ∧ x ≤ r.2.1 ∧ ¬ (r.2.2.1 = 2 ∧ (x - r.1) % 2 ≠ 0))
def sp_find (up : Bool) (c : Int) : List sp_Row → Int
  | [] => c
  | r :: rs => if r.2.2.2.2 ≠ (if up then 2 else 1) ∧ sp_isUp r (if up then c - r.2.2.2.1 else c) = true then (if up then c - r.2.2.2.1 else c + r.2.2.2.1) else sp_find up c rs
def sp_many (utf ucp : Bool) : Nat := if utf then 18 else if ucp then 3 else 1
-- how: 0 as it is, 1 upper, 2 lower
def sp_case (utf ucp : Bool) (how c : Nat) : Nat := if how = 0 then c else (sp_find (how = 1) (c : Int) (sp_rows.take (sp_many utf ucp))).toNat
-- the result, and how what comes to it is turned: bytes, steady, next
abbrev sp_O : Type := List Nat × Nat × Nat
def sp_one (utf ucp : Bool) (o : sp_O) (c : Nat) : Option sp_O :=
  if o.1.length + (sp_enc utf (sp_case utf ucp (if o.2.2 = 0 then o.2.1 else o.2.2) c)).length ≤ 262144 then some (o.1 ++ sp_enc utf (sp_case utf ucp (if o.2.2 = 0 then o.2.1 else o.2.2) c), o.2.1, 0) else none
def sp_all (utf ucp : Bool) : List Nat → sp_O → Option sp_O
  | [], o => some o
  | c :: cs, o => match sp_one utf ucp o c with
    | none => none
    | some o' => sp_all utf ucp cs o'
-- groups: greatest, what each holds (characters), names, the mark
abbrev sp_Src : Type := Nat × (Nat → Option (List Nat)) × List (List Nat × Nat) × List Nat
-- utf, ucp, rich, empty, unknown
abbrev sp_Md : Type := Bool × Bool × Bool × Bool × Bool
-- none: there is no such group; some none: it is unset; some (some g): it is set
def sp_best (S : Nat → Option (List Nat)) (w : List Nat) (best : Option (Option Nat)) (x : List Nat × Nat) : Option (Option Nat) :=
  if x.1 = w then (if (S x.2).isSome then (match best with | some (some g) => some (some (min g x.2)) | _ => some (some x.2)) else (match best with | none => some none | _ => best)) else best
def sp_named (G : sp_Src) (w : List Nat) : Option (Option Nat) := G.2.2.1.foldl (sp_best G.2.1 w) none
def sp_numb (G : sp_Src) (v : Nat) : Option (Option Nat) := if G.1 < v then none else if (G.2.1 v).isSome then some (some v) else some none
-- what a step of the writing comes to: code (0: none), the character where it was met (or -1), the next place, the result
abbrev sp_R : Type := Int × Int × Nat × sp_O
def sp_bad (c : Int) (k : Nat) (o : sp_O) : sp_R := (c, (k : Int), 0, o)
def sp_goes (i : Nat) (o : sp_O) : sp_R := (0, -1, i, o)
def sp_lift (i : Nat) (o : sp_O) (r : Option sp_O) : sp_R := match r with
  | none => (-48, -1, 0, o)
  | some o' => (0, -1, i, o')
def sp_group (M : sp_Md) (G : sp_Src) (r : Option (Option Nat)) (k i : Nat) (o : sp_O) : sp_R := match r with
  | none => if M.2.2.2.2 then (if M.2.2.2.1 then sp_goes i o else sp_bad (-55) k o) else sp_bad (-49) k o
  | some none => if M.2.2.2.1 then sp_goes i o else sp_bad (-55) k o
  | some (some g) => sp_lift i o (sp_all M.1 M.2.1 ((G.2.1 g).getD []) o)
-- a number's worth, at most 65535
def sp_num (t : List Nat) : Nat → Nat → Nat → Nat
  | 0, _, v => v
  | f + 1, k, v => sp_num t f (k + 1) (min 65535 (v * 10 + t.getD k 0 - 48))
-- the end of a part that begins at k
def sp_close (t : List Nat) (e : Nat) (colon : Bool) : Nat → Nat → Nat → Option Nat
  | 0, _, _ => none
  | f + 1, k, deep =>
    if e ≤ k then none
    else if t.getD k 0 = 92 then sp_close t e colon f (k + 2) deep
    else if t.getD k 0 = 36 ∧ sp_see t (k + 1) e = 123 then sp_close t e colon f (k + 2) (deep + 1)
    else if t.getD k 0 = 125 then (if deep = 0 then some k else sp_close t e colon f (k + 1) (deep - 1))
    else if t.getD k 0 = 58 ∧ colon = true ∧ deep = 0 then some k
    else sp_close t e colon f (k + 1) deep
def sp_end (t : List Nat) (k e : Nat) (colon : Bool) : Option Nat := sp_close t e colon (e - k) k 0
-- $ at k: the number or the name that begins at i ends there
def sp_refEnd (t : List Nat) (i e : Nat) : Nat := if sp_dig (sp_see t i e) then sp_to sp_dig t i e else sp_to sp_wrd t i (min e (i + 32))
def sp_ref (G : sp_Src) (t : List Nat) (i j : Nat) : Option (Option Nat) := if sp_dig (sp_see t i j) then sp_numb G (sp_num t (j - i) i 0) else sp_named G ((t.drop i).take (j - i))
def sp_mark (M : sp_Md) (G : sp_Src) (t : List Nat) (k e : Nat) (br : Bool) (i : Nat) (o : sp_O) : sp_R :=
  if sp_see t (i + 1) e = 77 ∧ sp_see t (i + 2) e = 65 ∧ sp_see t (i + 3) e = 82 ∧ sp_see t (i + 4) e = 75 then
    (if br = true ∧ sp_see t (i + 5) e ≠ 125 then sp_bad (-58) k o else sp_lift (if br then i + 6 else i + 5) o (sp_all M.1 M.2.1 G.2.2.2 o))
  else sp_bad (-35) k o
-- deeper: writes a part inside, if that is still allowed
def sp_choice (M : sp_Md) (G : sp_Src) (t : List Nat) (deeper : Option (Nat → Nat → sp_O → sp_R)) (k e i j : Nat) (o : sp_O) : sp_R :=
  let minus := decide (sp_see t (j + 1) e = 45)
  match sp_end t (j + 2) e (!minus) with
  | none => sp_bad (-58) k o
  | some one =>
    match (if t.getD one 0 = 58 then sp_end t (one + 1) e false else some one) with
    | none => sp_bad (-58) k o
    | some two =>
      match deeper with
      | none => sp_bad (-35) k o
      | some go =>
        let inside := fun (a b : Nat) => match go a b o with
          | (c, x, _, o') => if c = 0 then sp_goes (two + 1) o' else (c, x, 0, o')
        match sp_ref G t i j with
        | none => if M.2.2.2.2 then (if minus then inside (j + 2) one else if t.getD one 0 = 58 then inside (one + 1) two else sp_goes (two + 1) o) else sp_bad (-49) k o
        | some none => if minus then inside (j + 2) one else if t.getD one 0 = 58 then inside (one + 1) two else sp_goes (two + 1) o
        | some (some g) => if minus then sp_lift (two + 1) o (sp_all M.1 M.2.1 ((G.2.1 g).getD []) o) else inside (j + 2) one
def sp_dollar (M : sp_Md) (G : sp_Src) (t : List Nat) (deeper : Option (Nat → Nat → sp_O → sp_R)) (k e : Nat) (o : sp_O) : sp_R :=
  let br := decide (sp_see t (k + 1) e = 123)
  let i := if br then k + 2 else k + 1
  if sp_see t i e = 36 ∧ br = false then sp_lift (k + 2) o (sp_one M.1 M.2.1 o 36)
  else if sp_see t i e = 42 then sp_mark M G t k e br i o
  else
    let j := sp_refEnd t i e
    if j = i then sp_bad (-35) k o
    else if br = false then sp_group M G (sp_ref G t i j) k j o
    else if sp_see t j e = 125 then sp_group M G (sp_ref G t i j) k (j + 1) o
    else if M.2.2.1 = true ∧ sp_see t j e = 58 ∧ (sp_see t (j + 1) e = 45 ∨ sp_see t (j + 1) e = 43) then sp_choice M G t deeper k e i j o
    else sp_bad (-58) k o
-- a number's worth in base r
def sp_worth (r : Nat) (t : List Nat) : Nat → Nat → Nat → Nat
  | 0, _, v => v
  | f + 1, k, v => sp_worth r t f (k + 1) (v * r + (sp_val (t.getD k 0 : Nat)).toNat)
def sp_digs (r : Nat) (t : List Nat) (i e : Nat) : Nat := sp_to (fun c => decide (sp_val c < r)) t i e
def sp_bare (r : Nat) (t : List Nat) (i e : Nat) : Option (Nat × Nat) := some (sp_worth r t (sp_digs r t i (min e (i + 2)) - i) i 0, sp_digs r t i (min e (i + 2)))
def sp_braced (utf : Bool) (r : Nat) (t : List Nat) (i e : Nat) : Option (Nat × Nat) :=
  if sp_see t i e = 123 then
    (if sp_digs r t (i + 1) (min e (i + 9)) = i + 1 then none
     else if sp_see t (sp_digs r t (i + 1) (min e (i + 9))) e = 125 then
       (if sp_ok utf (sp_worth r t (sp_digs r t (i + 1) (min e (i + 9)) - (i + 1)) (i + 1) 0) = true then some (sp_worth r t (sp_digs r t (i + 1) (min e (i + 9)) - (i + 1)) (i + 1) 0, sp_digs r t (i + 1) (min e (i + 9)) + 1) else none)
     else none)
  else none
def sp_ctl (d : Int) : Nat := (if 97 ≤ d ∧ d ≤ 122 then d - 96 else if 64 ≤ d then d - 64 else d + 64).toNat
-- the character that \ and c stand for; what is behind c begins at i
def sp_esc (utf : Bool) (t : List Nat) (c : Int) (i e : Nat) : Option (Nat × Nat) :=
  if c = 97 then some (7, i)
  else if c = 101 then some (27, i)
  else if c = 102 then some (12, i)
  else if c = 110 then some (10, i)
  else if c = 114 then some (13, i)
  else if c = 116 then some (9, i)
  else if c = 99 then (if 32 ≤ sp_see t i e ∧ sp_see t i e ≤ 126 then some (sp_ctl (sp_see t i e), i + 1) else none)
  else if c = 48 then sp_bare 8 t i e
  else if c = 111 then sp_braced utf 8 t i e
  else if c = 120 then (if sp_see t i e = 123 then sp_braced utf 16 t i e else sp_bare 16 t i e)
  else none
-- where \Q from i on ends
def sp_quote (t : List Nat) (e : Nat) : Nat → Nat → Nat
  | 0, k => k
  | f + 1, k => if k < e ∧ ¬ (t.getD k 0 = 92 ∧ sp_see t (k + 1) e = 69) then sp_quote t e f (k + 1) else k
def sp_slash (M : sp_Md) (t : List Nat) (k e : Nat) (o : sp_O) : sp_R :=
  if sp_see t (k + 1) e = 81 then sp_lift (sp_quote t e (e - (k + 2)) (k + 2) + 2) o (sp_all M.1 M.2.1 ((t.drop (k + 2)).take (sp_quote t e (e - (k + 2)) (k + 2) - (k + 2))) o)
  else if sp_see t (k + 1) e = 69 then sp_goes (k + 2) (o.1, 0, o.2.2)
  else if sp_see t (k + 1) e = 85 then sp_goes (k + 2) (o.1, 1, o.2.2)
  else if sp_see t (k + 1) e = 76 then sp_goes (k + 2) (o.1, 2, o.2.2)
  else if sp_see t (k + 1) e = 117 then sp_goes (k + 2) (o.1, o.2.1, 1)
  else if sp_see t (k + 1) e = 108 then sp_goes (k + 2) (o.1, o.2.1, 2)
  else if 0 ≤ sp_see t (k + 1) e ∧ sp_let (sp_see t (k + 1) e) = false ∧ sp_dig (sp_see t (k + 1) e) = false then sp_lift (k + 2) o (sp_one M.1 M.2.1 o (t.getD (k + 1) 0))
  else match sp_esc M.1 t (sp_see t (k + 1) e) (k + 2) e with
    | none => sp_bad (-57) k o
    | some (v, j) => sp_lift j o (sp_one M.1 M.2.1 o v)
def sp_step (M : sp_Md) (G : sp_Src) (t : List Nat) (deeper : Option (Nat → Nat → sp_O → sp_R)) (k e : Nat) (o : sp_O) : sp_R :=
  if t.getD k 0 = 36 then sp_dollar M G t deeper k e o
  else if t.getD k 0 = 92 ∧ M.2.2.1 = true then sp_slash M t k e o
  else sp_lift (k + 1) o (sp_one M.1 M.2.1 o (t.getD k 0))
def sp_loop (M : sp_Md) (G : sp_Src) (t : List Nat) (deeper : Option (Nat → Nat → sp_O → sp_R)) (e : Nat) : Nat → Nat → sp_O → sp_R
  | 0, k, o => sp_goes k o
  | f + 1, k, o => if k < e then (if (sp_step M G t deeper k e o).1 = 0 then sp_loop M G t deeper e f (sp_step M G t deeper k e o).2.2.1 (sp_step M G t deeper k e o).2.2.2 else sp_step M G t deeper k e o) else sp_goes k o
def sp_part (M : sp_Md) (G : sp_Src) (t : List Nat) : Nat → Nat → Nat → sp_O → sp_R
  | 0, k, e, o => sp_loop M G t none e (e - k) k o
  | d + 1, k, e, o => sp_loop M G t (some (sp_part M G t d)) e (e - k) k o
-- where a character begins
def sp_off (utf : Bool) (t : List Nat) (i : Nat) : Nat := (sp_encs utf (t.take i)).length
-- code, offset, result
def sp_write (M : sp_Md) (G : sp_Src) (plain : Bool) (l : List Nat) : Int × Int × List Nat :=
  if 0 ≤ sp_fault M.1 l then (-3, sp_fault M.1 l, [])
  else if plain then (0, -1, l)
  else
    let t := sp_chars M.1 l
    let r := sp_part M G t 20 0 t.length ([], 0, 0)
    (r.1, if r.2.1 < 0 then -1 else (sp_off M.1 t r.2.1.toNat : Nat), if r.1 = 0 then r.2.2.2.1 else [])
end
section
/-! Facts of the specification, without the machine. -/
theorem sp_at_in {b : List Nat} {z : Int} {n : Nat} (hz : z = (n : Int)) (h : n < b.length) : sp_at b z = ((sp_b b n : Nat) : Int) := by
  subst hz
  unfold sp_at sp_b
  rw [if_pos (by omega)]
  simp
theorem sp_con_at (b : List Nat) (n : Nat) : sp_con b n = decide (128 ≤ sp_at b (n : Int) ∧ sp_at b (n : Int) < 192) := by
  unfold sp_con
  by_cases h : n < b.length
  · rw [sp_at_in rfl h]
    congr 1
    apply propext
    omega
  · unfold sp_at
    rw [if_neg (by omega)]
    congr 1
    apply propext
    omega
theorem sp_lead_le (utf : Bool) (x : Nat) : sp_lead utf x ≤ 4 := by
  unfold sp_lead
  repeat' split
  all_goals omega
theorem sp_b_lt {b : List Nat} (h : ∀ x ∈ b, x < 256) (k : Nat) : sp_b b k < 256 := by
  unfold sp_b
  by_cases hk : k < b.length
  · exact getD_lt h hk
  · rw [List.getD_eq_getElem?_getD, List.getElem?_eq_none (by omega)]
    decide
theorem sp_chr_lt (utf : Bool) {b : List Nat} (h : ∀ x ∈ b, x < 256) (k : Nat) : sp_chr utf b k < 2097152 := by
  have := sp_b_lt h k
  unfold sp_chr
  simp only
  repeat' split
  all_goals omega
theorem sp_len_le (utf : Bool) (x : Nat) : 1 ≤ sp_len utf x ∧ sp_len utf x ≤ 4 := by
  unfold sp_len
  repeat' split
  all_goals omega
theorem sp_good_false {b : List Nat} (h : ∀ x ∈ b, x < 256) (k : Nat) : sp_good false b k = true := by
  have := sp_b_lt h k
  have e : sp_lead false (sp_b b k) = 1 := by simp [sp_lead]
  have ec : sp_chr false b k = sp_b b k := by simp [sp_chr, e]
  simp [sp_good, e, ec, sp_ok, sp_len]
  omega
theorem sp_good_lead {utf : Bool} {b : List Nat} {k : Nat} (h : sp_good utf b k = true) : 1 ≤ sp_lead utf (sp_b b k) := by
  simp [sp_good] at h
  omega
theorem sp_dec_end {utf : Bool} {b : List Nat} {f k : Nat} (h : b.length ≤ k) : sp_dec utf b f k = ([], -1) := by
  cases f with
  | zero => rfl
  | succ f => simp [sp_dec, h]
theorem sp_dec_bad {utf : Bool} {b : List Nat} {f k : Nat} (hf : b.length ≤ k + f) (h : k < b.length) (hg : sp_good utf b k = false) : sp_dec utf b f k = ([], (k : Int)) := by
  cases f with
  | zero => omega
  | succ f => simp [sp_dec, hg]; omega
theorem sp_dec_go {utf : Bool} {b : List Nat} {f k : Nat} (h : k < b.length) (hg : sp_good utf b k = true) : sp_dec utf b (f + 1) k = (sp_chr utf b k :: (sp_dec utf b f (k + sp_lead utf (sp_b b k))).1, (sp_dec utf b f (k + sp_lead utf (sp_b b k))).2) := by
  rw [sp_dec, if_neg (by omega), if_pos hg]
theorem sp_dec_false {b : List Nat} (h : ∀ x ∈ b, x < 256) : ∀ f k, (sp_dec false b f k).2 = -1 := by
  intro f
  induction f with
  | zero => intro k; rfl
  | succ f ih =>
    intro k
    by_cases hk : b.length ≤ k
    · rw [sp_dec_end hk]
    · rw [sp_dec_go (by omega) (sp_good_false h k)]
      exact ih _
theorem sp_fault_false {b : List Nat} (h : ∀ x ∈ b, x < 256) : sp_fault false b = -1 := sp_dec_false h _ _
-- how many bytes of a row begin a character
def sp_beg (utf : Bool) (x : Nat) : Bool := !utf || decide (x < 128 ∨ 192 ≤ x)
def sp_cnt (utf : Bool) (b : List Nat) : Nat := b.countP (sp_beg utf)
theorem sp_cnt_succ (utf : Bool) (b : List Nat) (i : Nat) (h : i < b.length) : sp_cnt utf (b.take (i + 1)) = sp_cnt utf (b.take i) + if sp_beg utf (sp_b b i) = true then 1 else 0 := by
  unfold sp_cnt
  rw [List.take_succ_eq_append_getElem h, List.countP_append]
  have e : sp_b b i = b[i] := by
    unfold sp_b
    rw [List.getD_eq_getElem?_getD, List.getElem?_eq_getElem h]
    rfl
  rw [e]
  simp [List.countP_cons]
theorem sp_cnt_le (utf : Bool) (b : List Nat) (i : Nat) : sp_cnt utf (b.take i) ≤ b.length := by
  unfold sp_cnt
  exact Nat.le_trans List.countP_le_length (by rw [List.length_take]; omega)
theorem sp_good_len {utf : Bool} {b : List Nat} {k : Nat} (hk : k < b.length) (h : sp_good utf b k = true) : k + sp_lead utf (sp_b b k) ≤ b.length := by
  have := sp_lead_le utf (sp_b b k)
  simp [sp_good, sp_con] at h
  omega
end
section
/-! Rows of bytes that grow. -/
def sp_grow (cap len : Nat) : Nat := if len < cap then cap else 4 * cap
theorem zbytes_push {b : List Nat} {cap n : Nat} {f : Nat → Int32} {x : Int32} (hB : zbytes b cap f) (hl : b.length < cap) (hn : n < 256) (hx : x = sb_b n) : zbytes (b ++ [n]) cap (upd f b.length x) := by
  obtain ⟨h1, h2, h3, h4⟩ := hB
  refine ⟨by simp; omega, h2, fun y hy => ?_, fun j hj => ?_⟩
  · rcases List.mem_append.mp hy with h | h
    · exact h3 y h
    · rw [List.mem_singleton.mp h]; exact hn
  · simp only [List.length_append, List.length_cons, List.length_nil] at hj
    unfold upd
    by_cases he : j = b.length
    · rw [if_pos he, hx, he]
      simp
    · rw [if_neg he, h4 j (by omega)]
      congr 1
      simp [List.getD_eq_getElem?_getD, List.getElem?_append_left (show j < b.length by omega)]
theorem zbytes_grow {b : List Nat} {cap n : Nat} {f : Nat → Int32} (hB : zbytes b cap f) (hn : cap ≤ n) (h2 : n < 2147483648) : zbytes b n (va_cpy f (fun _ => 0) 0 0 cap) := by
  obtain ⟨h1, -, h3, h4⟩ := hB
  refine ⟨by omega, h2, h3, fun j hj => ?_⟩
  rw [pk_cpy_in (Nat.zero_le _) (by omega), Nat.zero_add, Nat.sub_zero]
  exact h4 j hj
theorem zbytes_cut {b : List Nat} {cap k : Nat} {f : Nat → Int32} (hB : zbytes b cap f) : zbytes (b.take k) cap f := by
  obtain ⟨h1, h2, h3, h4⟩ := hB
  refine ⟨by rw [List.length_take]; omega, h2, fun x hx => h3 x (List.mem_of_mem_take hx), fun j hj => ?_⟩
  rw [List.length_take] at hj
  rw [h4 j (by omega)]
  congr 1
  simp [List.getD_eq_getElem?_getD, List.getElem?_take, show j < k by omega]
theorem zbytes_copy {b : List Nat} {cap n : Nat} {f g : Nat → Int32} (hB : zbytes b cap f) (hn : b.length ≤ n) (h2 : n < 2147483648) : zbytes b n (va_cpy f g 0 0 b.length) := by
  obtain ⟨h1, -, h3, h4⟩ := hB
  refine ⟨hn, h2, h3, fun j hj => ?_⟩
  rw [pk_cpy_in (Nat.zero_le _) (by omega), Nat.zero_add, Nat.sub_zero]
  exact h4 j hj
theorem zbytes_fit {b : List Nat} {cap : Nat} {f : Nat → Int32} (hB : zbytes b cap f) : ∀ i, i < b.length → fits .byte (.int (f i)) = true := fun i hi => by rw [hB.2.2.2 i hi]; exact sb_fitB _
theorem sb_nar (x : Int32) : vp_nar .byte x.toInt8.toInt32 = x.toInt8.toInt32 := pk_vb x
def zfit (cap : Nat) (f : Nat → Int32) : Prop := ∀ i, i < cap → fits .byte (.int (f i)) = true
theorem zfit_upd {cap k : Nat} {f : Nat → Int32} {x : Int32} (h : zfit cap f) (hx : fits .byte (.int x) = true) : zfit cap (upd f k x) := fun i hi => by
  unfold upd
  by_cases he : i = k
  · rw [if_pos he]; exact hx
  · rw [if_neg he]; exact h i hi
theorem zfit_grow {cap n : Nat} {f : Nat → Int32} (h : zfit cap f) : zfit n (va_cpy f (fun _ => 0) 0 0 cap) := fun i hi => by
  unfold va_cpy
  split
  · exact h _ (by omega)
  · show fits FieldType.byte (Value.int 0) = true
    decide +kernel
theorem zfit_copy {cap n k : Nat} {f g : Nat → Int32} (h : zfit cap f) (hg : zfit n g) (hk : k ≤ cap) : zfit n (va_cpy f g 0 0 k) := fun i hi => by
  unfold va_cpy
  split
  · exact h _ (by omega)
  · exact hg i hi
theorem zfit_0 (n : Nat) : zfit n (fun _ => 0) := fun _ _ => show fits FieldType.byte (Value.int 0) = true by decide +kernel
end
section
/-! Statics, constants of the enum, the table of case. -/
theorem iI_emod (a : Int) : iI (a % 4294967296) = iI a := by
  apply Int32.toInt_inj.mp
  show (Int32.ofInt _).toInt = (Int32.ofInt _).toInt
  rw [Int32.toInt_ofInt, Int32.toInt_ofInt]
  exact Int.emod_bmod a 4294967296
theorem iI_mask1 (a : Int) : iI a &&& iI 1 = iI (a % 2) := by
  rw [← iI_emod a, iI_mask 1 1 2 (by omega) (by decide) (by decide)]
  congr 1
  omega
section ZS
variable {p : Program} {l : Launch} {e : Env} {R : Room} {s : State} {m : MethodId} {args : Array Value} {below : List Frame} {meth : Method} {c : Code} {H : Heap} {locs : List Loc} {cells slots : Nat} {Q : State → Prop} {cc : ByteArray} {pc nL : Nat} {ls : Array Slot} {rest : List Value} {own : String} {A : Nat → Prop}
theorem zgs {C n d : String} {v : Value} {index : Nat} (S : CallFix p m c cc nL s args zw own) (hZ : va_Z C n d v A s H) (hl : Cond.fieldLink own index C n d ∈ zw) (hd : decode cc pc = .ok (.getstatic index, 3)) (kk : W p l e R s m args below meth c H locs cells slots Q (F0 m (pc + 3) ls (v :: rest))) : W p l e R s m args below meth c H locs cells slots Q (F0 m pc ls rest) := by
  obtain ⟨cf, kf, fi, f, a, cell, h1, h2, h3, h4, h5, h6, h7, h8⟩ := hZ
  exact W.gets S.1 S.2.1 S.2.2.2.1 (S.2.2.2.2 _ hl) h1 h2 h3 h4 h5 (fun e => by rw [e] at h6; cases h6) h7 rfl hd kk
theorem zti {t N : Nat} {f : Nat → Value} {i : Int} {v : Value} (hx : p.tables.exec = Jvm.exec) (hb : c.code = cc) (hT : va_T .int t N f A s H) (h0 : 0 ≤ i) (h1 : i < (N : Int)) (hN : N < 2147483648) (hv : f i.toNat = v) (hd : decode cc pc = .ok (.iaload, 1)) (kk : W p l e R s m args below meth c H locs cells slots Q (F0 m (pc + 1) ls (v :: rest))) : W p l e R s m args below meth c H locs cells slots Q (F0 m pc ls (.int (iI i) :: .ref t :: rest)) := by
  have hS : va_S (fun _ => False) H H [] := va_S.rf
  obtain ⟨cell, q1, q2, q3, q4, q5, q6, q7⟩ := hT
  have ec : (iI i).toNatClampNeg = i.toNat := iI_clamp h0 (by omega)
  refine W.iald (v := v) hx hb q1 q2 q3 ?_ (by rw [ec, q6 _ (by omega), hv]) rfl rfl hd kk
  rw [ec]
  have := vp_in_iff.mp (iI_in h0 h1 hN)
  intro h
  rcases h with h | h
  · rw [iI_0, iI_lt ⟨by omega, by omega⟩ r32_0] at h
    omega
  · omega
theorem zacmp_ne {x y : Nat} {off : Int} {tgt : Nat} (hx : p.tables.exec = Jvm.exec) (hb : c.code = cc) (hd : decode cc pc = .ok (.if_acmp .ne off, 3)) (ht : (pc : Int) + off = (tgt : Int)) (kt : x ≠ y → W p l e R s m args below meth c H locs cells slots Q (F0 m tgt ls rest)) (kf : x = y → W p l e R s m args below meth c H locs cells slots Q (F0 m (pc + 3) ls rest)) : W p l e R s m args below meth c H locs cells slots Q (F0 m pc ls (.ref y :: .ref x :: rest)) :=
  lv_acmp_ne (rx := some x) (ry := some y) hx hb hd ht (fun h => kt (fun q => h (congrArg some q))) (fun h => kf (Option.some.inj h))
theorem zacmp_eq {x y : Nat} {off : Int} {tgt : Nat} (hx : p.tables.exec = Jvm.exec) (hb : c.code = cc) (hd : decode cc pc = .ok (.if_acmp .eq off, 3)) (ht : (pc : Int) + off = (tgt : Int)) (kt : x = y → W p l e R s m args below meth c H locs cells slots Q (F0 m tgt ls rest)) (kf : x ≠ y → W p l e R s m args below meth c H locs cells slots Q (F0 m (pc + 3) ls rest)) : W p l e R s m args below meth c H locs cells slots Q (F0 m pc ls (.ref y :: .ref x :: rest)) :=
  lv_acmp_eq (rx := some x) (ry := some y) hx hb hd ht (fun h => kt (Option.some.inj h)) (fun h => kf (fun q => h (congrArg some q)))
end ZS
theorem zE.pairs {E : zP} {s : State} {H : Heap} (h : zE E s H) : va_Z "ReplacementWriter$Cases" "PAIRS" "[I" (.ref (E.2.2.1 0)) (zOld E) s H := h.2.2.2.1
theorem zE.pairsT {E : zP} {s : State} {H : Heap} (h : zE E s H) : va_T .int (E.2.2.1 0) 90 (fun j => .int (iI (zpairs.getD j 0))) (zOld E) s H := h.2.2.2.2.1
theorem zE.asis {E : zP} {s : State} {H : Heap} (h : zE E s H) : va_Z "ReplacementWriter$Turn" "AS_IT_IS" "LReplacementWriter$Turn;" (.ref (E.2.2.1 1)) (zOld E) s H := h.2.2.2.2.2.1
theorem zE.upper {E : zP} {s : State} {H : Heap} (h : zE E s H) : va_Z "ReplacementWriter$Turn" "UPPER" "LReplacementWriter$Turn;" (.ref (E.2.2.1 2)) (zOld E) s H := h.2.2.2.2.2.2.1
theorem zE.lower {E : zP} {s : State} {H : Heap} (h : zE E s H) : va_Z "ReplacementWriter$Turn" "LOWER" "LReplacementWriter$Turn;" (.ref (E.2.2.1 3)) (zOld E) s H := h.2.2.2.2.2.2.2.1
theorem zE.turns {E : zP} {s : State} {H : Heap} (h : zE E s H) {a b : Nat} (ha : a ≤ 2) (hb : b ≤ 2) : E.2.2.1 (a + 1) = E.2.2.1 (b + 1) ↔ a = b := by
  obtain ⟨h1, h2, h3⟩ := h.2.2.2.2.2.2.2.2
  rcases (show a = 0 ∨ a = 1 ∨ a = 2 by omega) with rfl | rfl | rfl <;> rcases (show b = 0 ∨ b = 1 ∨ b = 2 by omega) with rfl | rfl | rfl <;> simp_all <;> (intro q; first | exact h1 q.symm | exact h2 q.symm | exact h3 q.symm)
-- the table: row r
abbrev sp_row (r : Nat) : sp_Row := sp_rows.getD r (0, 0, 0, 0, 0)
theorem zpairs_row : ∀ r : Fin 18, zpairs.getD (5 * r.val) 0 = (sp_row r.val).1 ∧ zpairs.getD (5 * r.val + 1) 0 = (sp_row r.val).2.1 ∧ zpairs.getD (5 * r.val + 2) 0 = (sp_row r.val).2.2.1 ∧ zpairs.getD (5 * r.val + 3) 0 = (sp_row r.val).2.2.2.1 ∧ zpairs.getD (5 * r.val + 4) 0 = (sp_row r.val).2.2.2.2 := by decide +kernel
theorem sp_row_r : ∀ r : Fin 18, (0 ≤ (sp_row r.val).1 ∧ (sp_row r.val).1 ≤ 10000) ∧ (0 ≤ (sp_row r.val).2.1 ∧ (sp_row r.val).2.1 ≤ 10000) ∧ (0 ≤ (sp_row r.val).2.2.1 ∧ (sp_row r.val).2.2.1 ≤ 2) ∧ (-10000 ≤ (sp_row r.val).2.2.2.1 ∧ (sp_row r.val).2.2.2.1 ≤ 10000) ∧ (0 ≤ (sp_row r.val).2.2.2.2 ∧ (sp_row r.val).2.2.2.2 ≤ 2) := by decide +kernel
end
section
/-! The search in the table of case. -/
theorem sp_rows_len : sp_rows.length = 18 := rfl
theorem sp_take_drop {mr r : Nat} (h : r < mr) (hm : mr ≤ 18) : (sp_rows.take mr).drop r = sp_row r :: (sp_rows.take mr).drop (r + 1) := by
  have hl : r < (sp_rows.take mr).length := by rw [List.length_take, sp_rows_len]; omega
  rw [List.drop_eq_getElem_cons hl]
  congr 1
  rw [List.getElem_take]
  unfold sp_row
  rw [List.getD_eq_getElem?_getD, List.getElem?_eq_getElem (by rw [sp_rows_len]; omega)]
  rfl
theorem sp_find_step (up : Bool) (c : Int) {mr r : Nat} (h : r < mr) (hm : mr ≤ 18) : sp_find up c ((sp_rows.take mr).drop r) = if (sp_row r).2.2.2.2 ≠ (if up then 2 else 1) ∧ sp_isUp (sp_row r) (if up then c - (sp_row r).2.2.2.1 else c) = true then (if up then c - (sp_row r).2.2.2.1 else c + (sp_row r).2.2.2.1) else sp_find up c ((sp_rows.take mr).drop (r + 1)) := by
  rw [sp_take_drop h hm]
  rfl
theorem sp_find_end (up : Bool) (c : Int) {mr r : Nat} (h : mr ≤ r) : sp_find up c ((sp_rows.take mr).drop r) = c := by
  rw [List.drop_of_length_le (by rw [List.length_take]; omega)]
  rfl
end
section
/-! Frozen cells; caps of rows; bytes of characters. -/
theorem zAZ {E : zP} {Z : Nat → Prop} {ws : va_W} {s : State} {A : Nat → Prop} (hE : zE E s s.heap) (hD : va_D (fun x => zOld E x ∧ ¬ Z x) ws) (hZ : ∀ q, Z q → q < s.heap.size) (hA : va_A ws s.heap.size = A) : ∀ q, A q → zOld E q ∧ ¬ Z q := by
  subst hA
  intro q h
  rcases h with ⟨k, e, h⟩ | h
  · exact hD.2 k _ h
  · exact ⟨Nat.le_trans hE.2.1 h, fun z => Nat.lt_irrefl _ (Nat.lt_of_lt_of_le (hZ q z) h)⟩
theorem zfz {D : va_G} {cl : List vw_C} {A : Nat → Prop} {H0 H : Heap} {locs : List Loc} {q : Nat × va_E} (hS : va_S A H0 H locs) (h : va_at D cl q H0) (hn : ¬ A q.1) : va_at D cl q H := h.kept (hS.2.1 _ h.lt hn)
-- a frozen row
def zrowZ (E : zP) (Z : Nat → Prop) (a : Nat) (b : List Nat) (H : Heap) : Prop := ∃ (most : Int) (q cap : Nat) (f : Nat → Int32), Z a ∧ Z q ∧ zO E 1 a [.int (iI most), .ref q, .int (iI (b.length : Nat))] H ∧ zA E 0 q cap f H ∧ zbytes b cap f
theorem zrowZ.row {E : zP} {Z : Nat → Prop} {a : Nat} {b : List Nat} {H : Heap} (h : zrowZ E Z a b H) : zrow E a b H := by
  obtain ⟨most, q, cap, f, -, -, h⟩ := h
  exact ⟨most, q, cap, f, h⟩
theorem zrowZ.fz {E : zP} {Z : Nat → Prop} {a : Nat} {b : List Nat} {A : Nat → Prop} {H0 H : Heap} {locs : List Loc} (h : zrowZ E Z a b H0) (hS : va_S A H0 H locs) (hn : ∀ q, Z q → ¬ A q) : zrowZ E Z a b H := by
  obtain ⟨most, q, cap, f, z1, z2, hO, hA, hB⟩ := h
  exact ⟨most, q, cap, f, z1, z2, zfz hS hO (hn _ z1), zfz hS hA (hn _ z2), hB⟩
-- caps
def sp_up (n : Nat) : Nat := if n ≤ 16 then 16 else if n ≤ 64 then 64 else if n ≤ 256 then 256 else if n ≤ 1024 then 1024 else if n ≤ 4096 then 4096 else if n ≤ 16384 then 16384 else if n ≤ 65536 then 65536 else 262144
def sp_capok (cap : Nat) : Prop := cap = 16 ∨ cap = 64 ∨ cap = 256 ∨ cap = 1024 ∨ cap = 4096 ∨ cap = 16384 ∨ cap = 65536 ∨ cap = 262144
theorem sp_up_ok (n : Nat) : sp_capok (sp_up n) := by
  unfold sp_up sp_capok
  repeat' split
  all_goals omega
theorem sp_up_ge {n : Nat} (h : n ≤ 262144) : n ≤ sp_up n := by
  unfold sp_up
  repeat' split
  all_goals omega
theorem sp_up_mono {n m : Nat} (h : n ≤ m) : sp_up n ≤ sp_up m := by
  unfold sp_up
  repeat' split
  all_goals omega
theorem sp_capok_max {a b : Nat} (ha : sp_capok a) (hb : sp_capok b) : sp_capok (max a b) := by
  rcases Nat.le_total a b with h | h
  · rw [Nat.max_eq_right h]; exact hb
  · rw [Nat.max_eq_left h]; exact ha
theorem sp_capok_r {a : Nat} (ha : sp_capok a) : 16 ≤ a ∧ a ≤ 262144 ∧ a % 16 = 0 := by
  unfold sp_capok at ha
  omega
theorem sp_up_le {cap n : Nat} (hc : sp_capok cap) (h : n ≤ cap) : sp_up n ≤ cap := by
  unfold sp_capok at hc
  unfold sp_up
  repeat' split
  all_goals omega
theorem sp_grow_up {cap len : Nat} (hc : sp_capok cap) (h : len ≤ cap) (h2 : len < 262144) : sp_grow cap len = max cap (sp_up (len + 1)) := by
  unfold sp_grow
  split
  · rw [Nat.max_eq_left (sp_up_le hc (by omega))]
  · have e : len = cap := by omega
    subst e
    unfold sp_capok at hc
    rcases hc with rfl | rfl | rfl | rfl | rfl | rfl | rfl | rfl <;> first | rfl | omega
theorem sp_max_max {cap n m : Nat} (h : n ≤ m) : max (max cap (sp_up n)) (sp_up m) = max cap (sp_up m) := by
  have := sp_up_mono h
  omega
-- bytes
theorem sb_of {z : Int} {n : Nat} (h0 : 0 ≤ z) (h : z % 256 = (n : Int)) : (iI z).toInt8.toInt32 = sb_b n := by
  obtain ⟨N, rfl⟩ := Int.eq_ofNat_of_zero_le h0
  have e : n = N % 256 := by omega
  subst e
  unfold sb_b
  congr 1
  rw [← iI_nI]
  apply Int8.toBitVec.inj
  unfold nI
  simp
  apply BitVec.eq_of_toNat_eq
  simp
theorem iI_orK {y : Int} (K : Int) (j a : Nat) (hK : K = ((2 ^ j * a : Nat) : Int)) (h0 : 0 ≤ y) (h1 : y < ((2 ^ j : Nat) : Int)) : iI K ||| iI y = iI (K + y) := by
  obtain ⟨k, rfl⟩ := Int.eq_ofNat_of_zero_le h0
  have e := Nat.two_pow_add_eq_or_of_lt (i := j) (b := k) (by omega) a
  rw [hK, iI_orN, ← e]
  congr 1
end
section
/-! What the table of case gives stays a character. -/
theorem sp_rows_ok : ∀ r ∈ sp_rows, 0 ≤ r.1 ∧ r.2.1 ≤ 10000 ∧ 0 ≤ r.1 + r.2.2.2.1 ∧ r.2.1 + r.2.2.2.1 ≤ 20000 := by decide +kernel
theorem sp_rows_ok8 : ∀ r ∈ sp_rows.take 3, 0 ≤ r.1 ∧ r.2.1 ≤ 222 ∧ 0 ≤ r.1 + r.2.2.2.1 ∧ r.2.1 + r.2.2.2.1 ≤ 254 := by decide +kernel
theorem sp_find_r (up : Bool) (c M B : Int) : ∀ rs : List sp_Row, (∀ r ∈ rs, 0 ≤ r.1 ∧ r.2.1 ≤ M ∧ 0 ≤ r.1 + r.2.2.2.1 ∧ r.2.1 + r.2.2.2.1 ≤ M) → 0 ≤ c → c ≤ B → M ≤ B → 0 ≤ sp_find up c rs ∧ sp_find up c rs ≤ B := by
  intro rs
  induction rs with
  | nil => intro _ h0 h1 _; exact ⟨h0, h1⟩
  | cons r rs ih =>
    intro h h0 h1 hM
    have hr := h r List.mem_cons_self
    have ihh := ih (fun x hx => h x (List.mem_cons_of_mem _ hx)) h0 h1 hM
    by_cases hc : r.2.2.2.2 ≠ (if up then 2 else 1) ∧ sp_isUp r (if up then c - r.2.2.2.1 else c) = true
    · rw [show sp_find up c (r :: rs) = (if up then c - r.2.2.2.1 else c + r.2.2.2.1) from if_pos hc]
      have h2 := hc.2
      unfold sp_isUp at h2
      have h3 := of_decide_eq_true h2
      cases up
      · simp only [Bool.false_eq_true, if_false] at h3 ⊢
        omega
      · simp only [if_true] at h3 ⊢
        omega
    · rw [show sp_find up c (r :: rs) = sp_find up c rs from if_neg hc]
      exact ihh
theorem sp_case_lt {utf ucp : Bool} {how c : Nat} (h : sp_ok utf c = true) : sp_case utf ucp how c < 2097152 ∧ (utf = false → sp_case utf ucp how c < 256) := by
  have hc : c ≤ 1114111 ∧ (utf = false → c ≤ 255) := by
    cases utf <;> simp [sp_ok] at h <;> simp <;> omega
  unfold sp_case
  split
  · constructor
    · omega
    · intro q; have := hc.2 q; omega
  · constructor
    · have := (sp_find_r (how = 1) (c : Int) 20000 1114111 (sp_rows.take (sp_many utf ucp)) (fun r hr => by have := sp_rows_ok r (List.mem_of_mem_take hr); omega) (by omega) (by omega) (by omega))
      omega
    · intro q
      have := (sp_find_r (how = 1) (c : Int) 254 255 (sp_rows.take (sp_many utf ucp)) (fun r hr => by
        have hm : sp_many utf ucp ≤ 3 := by subst q; unfold sp_many; simp; split <;> omega
        have := sp_rows_ok8 r (List.mem_of_mem_take (i := sp_many utf ucp) (by rw [List.take_take, Nat.min_eq_left hm]; exact hr))
        omega) (by omega) (by have := hc.2 q; omega) (by omega))
      omega
theorem sp_case_eq {utf ucp : Bool} {how c : Nat} (h : sp_ok utf c = true) : (if how = 0 then (c : Int) else sp_find (decide (how = 1)) (c : Int) (sp_rows.take (sp_many utf ucp))) = ((sp_case utf ucp how c : Nat) : Int) := by
  have hc : c ≤ 1114111 := by
    cases utf <;> simp [sp_ok] at h <;> omega
  unfold sp_case
  split
  · rfl
  · have := (sp_find_r (decide (how = 1)) (c : Int) 20000 1114111 (sp_rows.take (sp_many utf ucp)) (fun r hr => by have := sp_rows_ok r (List.mem_of_mem_take hr); omega) (by omega) (by omega) (by omega))
    omega
theorem sp_many_le (utf ucp : Bool) : sp_many utf ucp ≤ 18 := by cases utf <;> cases ucp <;> decide
theorem sp_enc_len (utf : Bool) (c : Nat) : (sp_enc utf c).length = sp_len utf c := by
  unfold sp_enc sp_len
  by_cases h1 : utf = false ∨ c < 128
  · simp [h1]
  · by_cases h2 : c < 2048
    · simp [h1, h2]
    · by_cases h3 : c < 65536
      · simp [h1, h2, h3]
      · simp [h1, h2, h3]
theorem zrow.of {E : zP} {a q cap : Nat} {most : Int} {f : Nat → Int32} {b : List Nat} {H : Heap} (hO : zO E 1 a [.int (iI most), .ref q, .int (iI ((b.length : Nat) : Int))] H) (hA : zA E 0 q cap f H) (hB : zbytes b cap f) : zrow E a b H := ⟨most, q, cap, f, hO, hA, hB⟩
end
section
/-! Loops of writers; characters in bytes. -/
section ZL
variable {p : Program} {l : Launch} {e : Env} {R : Room} {s : State} {m : MethodId} {args : Array Value} {below : List Frame} {meth : Method} {c : Code} {H : Heap} {locs : List Loc} {cells slots : Nat} {Q : State → Prop} {pc : Nat} {ls : Array Slot} {st : List Value}
theorem zloop {σ : Type} (I : σ → Heap → List Loc → Array Slot → Nat → Nat → Prop) (μ : σ → Nat)
    (hstep : ∀ (x : σ) (H : Heap) (locs : List Loc) (ls : Array Slot) (cells slots : Nat), I x H locs ls cells slots → (∀ (y : σ) (H' : Heap) (locs' : List Loc) (ls' : Array Slot) (c' s' : Nat), μ y < μ x → I y H' locs' ls' c' s' → W p l e R s m args below meth c H' locs' c' s' Q (F0 m pc ls' st)) → W p l e R s m args below meth c H locs cells slots Q (F0 m pc ls st))
    (x : σ) (h : I x H locs ls cells slots) : W p l e R s m args below meth c H locs cells slots Q (F0 m pc ls st) := by
  have key : ∀ (n : Nat) (x : σ) (H : Heap) (locs : List Loc) (ls : Array Slot) (cells slots : Nat), μ x < n → I x H locs ls cells slots → W p l e R s m args below meth c H locs cells slots Q (F0 m pc ls st) := by
    intro n
    induction n with
    | zero => intro x H locs ls cells slots hn; exact absurd hn (Nat.not_lt_zero _)
    | succ n ih => intro x H locs ls cells slots hn hI; exact hstep x H locs ls cells slots hI (fun y H' locs' ls' c' s' hy hI' => ih y H' locs' ls' c' s' (by omega) hI')
  exact key _ x H locs ls cells slots (Nat.lt_succ_self _) h
end ZL
theorem sp_b_drop {b : List Nat} {k j : Nat} : sp_b b (k + j) = sp_b (b.drop k) j := by
  unfold sp_b
  simp [List.getD_eq_getElem?_getD, List.getElem?_drop]
theorem sp_b_cons0 (x : Nat) (r : List Nat) : sp_b (x :: r) 0 = x := rfl
theorem sp_b_cons1 (x y : Nat) (r : List Nat) : sp_b (x :: y :: r) 1 = y := rfl
theorem sp_b_cons2 (x y z : Nat) (r : List Nat) : sp_b (x :: y :: z :: r) 2 = z := rfl
theorem sp_b_cons3 (x y z w : Nat) (r : List Nat) : sp_b (x :: y :: z :: w :: r) 3 = w := rfl
theorem sp_enc_at {utf : Bool} {b r : List Nat} {k c : Nat} (h : b.drop k = sp_enc utf c ++ r) (hok : sp_ok utf c = true) : sp_lead utf (sp_b b k) = sp_len utf c ∧ sp_chr utf b k = c ∧ k + sp_len utf c ≤ b.length ∧ b.drop (k + sp_len utf c) = r := by
  have hc : c ≤ 1114111 ∧ (utf = false → c ≤ 255) := by
    cases utf <;> simp [sp_ok] at hok <;> simp <;> omega
  have hlen : b.length - k = sp_len utf c + r.length := by
    have := congrArg List.length h
    rw [List.length_drop, List.length_append, sp_enc_len] at this
    exact this
  have h1 := (sp_len_le utf c).1
  have h5 : b.drop (k + sp_len utf c) = r := by
    rw [← List.drop_drop, h, ← sp_enc_len utf c, List.drop_left]
  have e0 : sp_b b k = sp_b (sp_enc utf c ++ r) 0 := by rw [← h, ← sp_b_drop, Nat.add_zero]
  have e1 : sp_b b (k + 1) = sp_b (sp_enc utf c ++ r) 1 := by rw [← h, ← sp_b_drop]
  have e2 : sp_b b (k + 2) = sp_b (sp_enc utf c ++ r) 2 := by rw [← h, ← sp_b_drop]
  have e3 : sp_b b (k + 3) = sp_b (sp_enc utf c ++ r) 3 := by rw [← h, ← sp_b_drop]
  have hl : sp_lead utf (sp_b b k) = sp_len utf c ∧ sp_chr utf b k = c := by
    by_cases q1 : utf = false ∨ c < 128
    · have ee : sp_enc utf c = [c] := by unfold sp_enc; rw [if_pos q1]
      have el : sp_len utf c = 1 := by unfold sp_len; rw [if_pos q1]
      rw [ee, List.singleton_append, sp_b_cons0] at e0
      have ed : sp_lead utf c = 1 := by unfold sp_lead; rw [if_pos q1]
      rw [e0, el]
      refine ⟨ed, ?_⟩
      unfold sp_chr
      simp only [e0, ed]
      simp
    · have hu : utf = true := by cases utf <;> simp_all
      subst hu
      have q1' : ¬ c < 128 := fun z => q1 (Or.inr z)
      by_cases q2 : c < 2048
      · have ee : sp_enc true c = [192 + c / 64, 128 + c % 64] := by unfold sp_enc; rw [if_neg q1, if_pos q2]
        have el : sp_len true c = 2 := by unfold sp_len; rw [if_neg q1, if_pos q2]
        rw [ee] at e0 e1
        simp only [List.cons_append, sp_b_cons0, sp_b_cons1] at e0 e1
        have ed : sp_lead true (192 + c / 64) = 2 := by unfold sp_lead; simp only [Bool.true_eq_false, reduceCtorEq, false_or]; (repeat' split) <;> omega
        rw [e0, el]
        refine ⟨ed, ?_⟩
        unfold sp_chr
        simp only [e0, e1, ed]
        simp
        omega
      · by_cases q3 : c < 65536
        · have ee : sp_enc true c = [224 + c / 4096, 128 + c / 64 % 64, 128 + c % 64] := by unfold sp_enc; rw [if_neg q1, if_neg q2, if_pos q3]
          have el : sp_len true c = 3 := by unfold sp_len; rw [if_neg q1, if_neg q2, if_pos q3]
          rw [ee] at e0 e1 e2
          simp only [List.cons_append, sp_b_cons0, sp_b_cons1, sp_b_cons2] at e0 e1 e2
          have ed : sp_lead true (224 + c / 4096) = 3 := by unfold sp_lead; simp only [Bool.true_eq_false, reduceCtorEq, false_or]; (repeat' split) <;> omega
          rw [e0, el]
          refine ⟨ed, ?_⟩
          unfold sp_chr
          simp only [e0, e1, e2, ed]
          simp
          omega
        · have ee : sp_enc true c = [240 + c / 262144, 128 + c / 4096 % 64, 128 + c / 64 % 64, 128 + c % 64] := by unfold sp_enc; rw [if_neg q1, if_neg q2, if_neg q3]
          have el : sp_len true c = 4 := by unfold sp_len; rw [if_neg q1, if_neg q2, if_neg q3]
          rw [ee] at e0 e1 e2 e3
          simp only [List.cons_append, sp_b_cons0, sp_b_cons1, sp_b_cons2, sp_b_cons3] at e0 e1 e2 e3
          have ed : sp_lead true (240 + c / 262144) = 4 := by unfold sp_lead; simp only [Bool.true_eq_false, reduceCtorEq, false_or]; (repeat' split) <;> omega
          rw [e0, el]
          refine ⟨ed, ?_⟩
          unfold sp_chr
          simp only [e0, e1, e2, e3, ed]
          simp
          omega
  exact ⟨hl.1, hl.2, by omega, h5⟩
end
section
/-! Writing many characters. -/
theorem sp_encs_cons (utf : Bool) (c : Nat) (cs : List Nat) : sp_encs utf (c :: cs) = sp_enc utf c ++ sp_encs utf cs := by simp [sp_encs]
theorem sp_encs_nil (utf : Bool) : sp_encs utf [] = [] := rfl
theorem sp_one_some {utf ucp : Bool} {out : List Nat} {mode once c t how : Nat} (hhow : how = if once = 0 then mode else once) (ht : t = sp_case utf ucp how c) (h : out.length + sp_len utf t ≤ 262144) : sp_one utf ucp (out, mode, once) c = some (out ++ sp_enc utf t, mode, 0) := by
  unfold sp_one
  simp only
  rw [← hhow, ← ht, if_pos (by rw [sp_enc_len]; exact h)]
theorem sp_one_none {utf ucp : Bool} {out : List Nat} {mode once c t how : Nat} (hhow : how = if once = 0 then mode else once) (ht : t = sp_case utf ucp how c) (h : ¬ out.length + sp_len utf t ≤ 262144) : sp_one utf ucp (out, mode, once) c = none := by
  unfold sp_one
  simp only
  rw [← hhow, ← ht, if_neg (by rw [sp_enc_len]; exact h)]
theorem sp_one_len {utf ucp : Bool} {o o' : sp_O} {c : Nat} (h : sp_one utf ucp o c = some o') : o.1.length ≤ o'.1.length ∧ o'.1.length ≤ 262144 ∧ o'.2.1 = o.2.1 ∧ o'.2.2 = 0 := by
  unfold sp_one at h
  generalize sp_enc utf (sp_case utf ucp (if o.2.2 = 0 then o.2.1 else o.2.2) c) = w at h
  split at h
  · rename_i hl
    cases h
    refine ⟨?_, ?_, rfl, rfl⟩
    · show o.1.length ≤ (o.1 ++ w).length
      rw [List.length_append]; omega
    · show (o.1 ++ w).length ≤ 262144
      rw [List.length_append]; exact hl
  · cases h
theorem sp_all_len {utf ucp : Bool} : ∀ (cs : List Nat) (o o' : sp_O), sp_all utf ucp cs o = some o' → o.1.length ≤ o'.1.length ∧ o'.2.1 = o.2.1 ∧ (o.2.2 ≤ 2 → o'.2.2 ≤ 2) ∧ (o.1.length ≤ 262144 → o'.1.length ≤ 262144) := by
  intro cs
  induction cs with
  | nil => intro o o' h; cases h; exact ⟨Nat.le_refl _, rfl, id, id⟩
  | cons c cs ih =>
    intro o o' h
    unfold sp_all at h
    split at h
    · cases h
    · rename_i o1 h1
      have a := sp_one_len h1
      have b := ih o1 o' h
      exact ⟨by omega, by rw [b.2.1, a.2.2.1], fun _ => b.2.2.1 (by omega), fun _ => b.2.2.2 a.2.1⟩
theorem sp_all_cons {utf ucp : Bool} {c : Nat} {cs : List Nat} {o o1 : sp_O} (h : sp_one utf ucp o c = some o1) : sp_all utf ucp (c :: cs) o = sp_all utf ucp cs o1 := by
  rw [sp_all, h]
theorem sp_encs_pos {utf : Bool} {cs : List Nat} (h : 0 < (sp_encs utf cs).length) : ∃ c cs', cs = c :: cs' := by
  cases cs with
  | nil => exact absurd h (by simp [sp_encs])
  | cons c cs => exact ⟨c, cs, rfl⟩
theorem sp_encs_zero {utf : Bool} {cs : List Nat} (h : (sp_encs utf cs).length = 0) : cs = [] := by
  cases cs with
  | nil => rfl
  | cons c cs =>
    rw [sp_encs_cons, List.length_append, sp_enc_len] at h
    have := (sp_len_le utf c).1
    omega
theorem sp_encs_append (utf : Bool) (a b : List Nat) : sp_encs utf (a ++ b) = sp_encs utf a ++ sp_encs utf b := by simp [sp_encs]
end
section
set_option maxRecDepth 100000 in
set_option maxHeartbeats 4000000 in
theorem c_Row_length (l : Launch) (E : zP) (h : Nat) (b : List Nat) : Met l y_Row_length (.code y_Row_length b_Row_length 1 ( some FieldType.int ) :: zw) { frames := 0, cells := 0, slots := 0, locals := 0 } (zPc E [.ref h] (zrow E h b)) (zR (some (.int (iI (b.length : Nat))))) 0 0 (fun _ => False) := by
  refine zMet (by decide) (Nat.le_of_ble_eq_true rfl) ?_
  intro p e s m below meth c ls S hr hlk hnm hE ⟨most, q, cap, f, hO, hA, hB⟩ hl
  have hx := S.1
  have hb := S.2.1
  have hl : lv_has ls 1 [(0, .ref h)] := hl
  refine lv_aload_n hx hb d_Row_length_0 rfl (lv_at hl 0 rfl) ?_
  refine zgf S hE (ci := 1) rfl i_Row hO 2 (by decide) zw_56 rfl d_Row_length_1 ?_
  exact zretI S hr hlk d_Row_length_4 (rfl)

set_option maxRecDepth 100000 in
set_option maxHeartbeats 4000000 in
theorem c_Row_at (l : Launch) (E : zP) (h : Nat) (b : List Nat) (k : Int) (hk : r32 k) : Met l y_Row_at (.code y_Row_at b_Row_at 2 ( some FieldType.int ) :: zw) { frames := 0, cells := 0, slots := 0, locals := 0 } (zPc E [.ref h, .int (iI k)] (zrow E h b)) (zR (some (.int (iI (sp_at b k))))) 0 0 (fun _ => False) := by
  refine zMet (by decide) (Nat.le_of_ble_eq_true rfl) ?_
  intro p e s m below meth c ls S hr hlk hnm hE ⟨most, q, cap, f, hO, hA, hB⟩ hl
  have hx := S.1
  have hb := S.2.1
  have hl : lv_has ls 2 [(0, .ref h), (1, .int (iI k))] := hl
  have hcap := hB.1
  have hcap2 := hB.2.1
  refine lv_iload_n hx hb d_Row_at_0 rfl (lv_at hl 1 rfl) ?_
  refine zi_if_lt hx hb d_Row_at_1 rfl (by omega) (fun h1 => ?_) (fun h1 => ?_)
  · refine zi_iconst hx hb d_Row_at_25 ?_
    exact zretI S hr hlk d_Row_at_26 (congrArg iI (by unfold sp_at; first | rw [if_pos (by omega)] | rw [if_neg (by omega)]))
  · refine lv_iload_n hx hb d_Row_at_4 rfl (lv_at hl 1 rfl) ?_
    refine lv_aload_n hx hb d_Row_at_5 rfl (lv_at hl 0 rfl) ?_
    refine zgf S hE (ci := 1) rfl i_Row hO 2 (by decide) zw_56 rfl d_Row_at_6 ?_
    refine zi_icmp_ge hx hb d_Row_at_9 rfl (by omega) (by omega) (fun h9 => ?_) (fun h9 => ?_)
    · refine zi_iconst hx hb d_Row_at_25 ?_
      exact zretI S hr hlk d_Row_at_26 (congrArg iI (by unfold sp_at; first | rw [if_pos (by omega)] | rw [if_neg (by omega)]))
    · refine lv_aload_n hx hb d_Row_at_12 rfl (lv_at hl 0 rfl) ?_
      refine zgf S hE (ci := 1) rfl i_Row hO 1 (by decide) zw_55 rfl d_Row_at_13 ?_
      refine lv_iload_n hx hb d_Row_at_16 rfl (lv_at hl 1 rfl) ?_
      refine zbald hx hb hE hA (by omega) (by omega) (by omega) d_Row_at_17 ?_
      refine zi_sipush hx hb d_Row_at_18 (by decide) ?_
      refine lv_iand hx hb d_Row_at_21 ?_
      rw [hB.2.2.2 k.toNat (by omega), sb_iI (getD_lt hB.2.2.1 (by omega))]
      refine lv_goto hx hb d_Row_at_22 rfl ?_
      exact zretI S hr hlk d_Row_at_26 (congrArg iI (by unfold sp_at; first | rw [if_pos (by omega)] | rw [if_neg (by omega)]))

set_option maxRecDepth 100000 in
set_option maxHeartbeats 4000000 in
theorem c_Ascii_isDigit (l : Launch) (E : zP) (k : Int) (hk : r32 k) : Met l y_Ascii_isDigit (.code y_Ascii_isDigit b_Ascii_isDigit 1 ( some FieldType.boolean ) :: zw) { frames := 0, cells := 0, slots := 0, locals := 0 } (zPc E [.int (iI k)] (fun _ => True)) (zR (some (.int (iI (bN (sp_dig k)))))) 0 0 (fun _ => False) := by
  refine zMet (by decide) (Nat.le_of_ble_eq_true rfl) ?_
  intro p e s m below meth c ls S hr hlk hnm hE hp hl
  have hx := S.1
  have hb := S.2.1
  have hl : lv_has ls 1 [(0, .int (iI k))] := hl
  refine lv_iload_n hx hb d_Ascii_isDigit_0 rfl (lv_at hl 0 rfl) ?_
  refine zi_bipush hx hb d_Ascii_isDigit_1 (by decide) ?_
  refine zi_icmp_lt hx hb d_Ascii_isDigit_3 rfl (by omega) (by omega) (fun h3 => ?_) (fun h3 => ?_)
  · refine zi_iconst hx hb d_Ascii_isDigit_16 ?_
    exact zretZ (b := false) S hr hlk d_Ascii_isDigit_17 (by first | exact (decide_eq_true (by omega)).symm | exact (decide_eq_false (by omega)).symm)
  · refine lv_iload_n hx hb d_Ascii_isDigit_6 rfl (lv_at hl 0 rfl) ?_
    refine zi_bipush hx hb d_Ascii_isDigit_7 (by decide) ?_
    refine zi_icmp_gt hx hb d_Ascii_isDigit_9 rfl (by omega) (by omega) (fun h9 => ?_) (fun h9 => ?_)
    · refine zi_iconst hx hb d_Ascii_isDigit_16 ?_
      exact zretZ (b := false) S hr hlk d_Ascii_isDigit_17 (by first | exact (decide_eq_true (by omega)).symm | exact (decide_eq_false (by omega)).symm)
    · refine zi_iconst hx hb d_Ascii_isDigit_12 ?_
      refine lv_goto hx hb d_Ascii_isDigit_13 rfl ?_
      exact zretZ (b := true) S hr hlk d_Ascii_isDigit_17 (by first | exact (decide_eq_true (by omega)).symm | exact (decide_eq_false (by omega)).symm)

set_option maxRecDepth 100000 in
set_option maxHeartbeats 4000000 in
theorem c_Ascii_isLetterOrDigit (l : Launch) (E : zP) (k : Int) (hk : r32 k) : Met l y_Ascii_isLetterOrDigit (.code y_Ascii_isLetterOrDigit b_Ascii_isLetterOrDigit 1 ( some FieldType.boolean ) :: zw) { frames := 1, cells := 0, slots := 0, locals := 20 } (zPc E [.int (iI k)] (fun _ => True)) (zR (some (.int (iI (bN (sp_dig k || sp_let k)))))) 0 0 (fun _ => False) := by
  refine zMet (by decide) (Nat.le_of_ble_eq_true rfl) ?_
  intro p e s m below meth c ls S hr hlk hnm hE hp hl
  have hx := S.1
  have hb := S.2.1
  have hl : lv_has ls 1 [(0, .int (iI k))] := hl
  refine lv_iload_n hx hb d_Ascii_isLetterOrDigit_0 rfl (lv_at hl 0 rfl) ?_
  refine zcR (va_runS (As := [.int (iI k)]) (rest := []) S (c_Ascii_isDigit l E k (by omega)) ⟨zcwB (n := 1) S zw_519 zw_27 zw_526 (by decide +kernel) rfl rfl ⟨Nat.le_of_ble_eq_true rfl, Nat.le_of_ble_eq_true rfl⟩, S.2.2.2.2 _ zw_518⟩ (zPreS hE trivial) rfl rfl hl.1 rfl (lv_room (Nat.le_of_ble_eq_true rfl)) d_Ascii_isLetterOrDigit_1 ⟨Nat.zero_le _, Nat.zero_le _⟩) ?_
  refine zb_ifne hx hb d_Ascii_isLetterOrDigit_4 rfl (fun h4 => ?_) (fun h4 => ?_)
  · refine zi_iconst hx hb d_Ascii_isLetterOrDigit_31 ?_
    refine lv_goto hx hb d_Ascii_isLetterOrDigit_32 rfl ?_
    exact zretZ (b := true) S hr hlk d_Ascii_isLetterOrDigit_36 (by refine Eq.symm ?_; simp only [sp_dig, sp_let, sp_wrd, Bool.or_eq_true, Bool.or_eq_false_iff, decide_eq_true_eq, decide_eq_false_iff_not] at *; omega)
  · refine lv_iload_n hx hb d_Ascii_isLetterOrDigit_7 rfl (lv_at hl 0 rfl) ?_
    refine zi_bipush hx hb d_Ascii_isLetterOrDigit_8 (by decide) ?_
    refine zi_icmp_lt hx hb d_Ascii_isLetterOrDigit_10 rfl (by omega) (by omega) (fun h10 => ?_) (fun h10 => ?_)
    · refine lv_iload_n hx hb d_Ascii_isLetterOrDigit_19 rfl (lv_at hl 0 rfl) ?_
      refine zi_bipush hx hb d_Ascii_isLetterOrDigit_20 (by decide) ?_
      refine zi_icmp_lt hx hb d_Ascii_isLetterOrDigit_22 rfl (by omega) (by omega) (fun h22 => ?_) (fun h22 => ?_)
      · refine zi_iconst hx hb d_Ascii_isLetterOrDigit_35 ?_
        exact zretZ (b := false) S hr hlk d_Ascii_isLetterOrDigit_36 (by refine Eq.symm ?_; simp only [sp_dig, sp_let, sp_wrd, Bool.or_eq_true, Bool.or_eq_false_iff, decide_eq_true_eq, decide_eq_false_iff_not] at *; omega)
      · refine lv_iload_n hx hb d_Ascii_isLetterOrDigit_25 rfl (lv_at hl 0 rfl) ?_
        refine zi_bipush hx hb d_Ascii_isLetterOrDigit_26 (by decide) ?_
        refine zi_icmp_gt hx hb d_Ascii_isLetterOrDigit_28 rfl (by omega) (by omega) (fun h28 => ?_) (fun h28 => ?_)
        · refine zi_iconst hx hb d_Ascii_isLetterOrDigit_35 ?_
          exact zretZ (b := false) S hr hlk d_Ascii_isLetterOrDigit_36 (by refine Eq.symm ?_; simp only [sp_dig, sp_let, sp_wrd, Bool.or_eq_true, Bool.or_eq_false_iff, decide_eq_true_eq, decide_eq_false_iff_not] at *; omega)
        · refine zi_iconst hx hb d_Ascii_isLetterOrDigit_31 ?_
          refine lv_goto hx hb d_Ascii_isLetterOrDigit_32 rfl ?_
          exact zretZ (b := true) S hr hlk d_Ascii_isLetterOrDigit_36 (by refine Eq.symm ?_; simp only [sp_dig, sp_let, sp_wrd, Bool.or_eq_true, Bool.or_eq_false_iff, decide_eq_true_eq, decide_eq_false_iff_not] at *; omega)
    · refine lv_iload_n hx hb d_Ascii_isLetterOrDigit_13 rfl (lv_at hl 0 rfl) ?_
      refine zi_bipush hx hb d_Ascii_isLetterOrDigit_14 (by decide) ?_
      refine zi_icmp_le hx hb d_Ascii_isLetterOrDigit_16 rfl (by omega) (by omega) (fun h16 => ?_) (fun h16 => ?_)
      · refine zi_iconst hx hb d_Ascii_isLetterOrDigit_31 ?_
        refine lv_goto hx hb d_Ascii_isLetterOrDigit_32 rfl ?_
        exact zretZ (b := true) S hr hlk d_Ascii_isLetterOrDigit_36 (by refine Eq.symm ?_; simp only [sp_dig, sp_let, sp_wrd, Bool.or_eq_true, Bool.or_eq_false_iff, decide_eq_true_eq, decide_eq_false_iff_not] at *; omega)
      · refine lv_iload_n hx hb d_Ascii_isLetterOrDigit_19 rfl (lv_at hl 0 rfl) ?_
        refine zi_bipush hx hb d_Ascii_isLetterOrDigit_20 (by decide) ?_
        refine zi_icmp_lt hx hb d_Ascii_isLetterOrDigit_22 rfl (by omega) (by omega) (fun h22 => ?_) (fun h22 => ?_)
        · refine zi_iconst hx hb d_Ascii_isLetterOrDigit_35 ?_
          exact zretZ (b := false) S hr hlk d_Ascii_isLetterOrDigit_36 (by refine Eq.symm ?_; simp only [sp_dig, sp_let, sp_wrd, Bool.or_eq_true, Bool.or_eq_false_iff, decide_eq_true_eq, decide_eq_false_iff_not] at *; omega)
        · refine lv_iload_n hx hb d_Ascii_isLetterOrDigit_25 rfl (lv_at hl 0 rfl) ?_
          refine zi_bipush hx hb d_Ascii_isLetterOrDigit_26 (by decide) ?_
          refine zi_icmp_gt hx hb d_Ascii_isLetterOrDigit_28 rfl (by omega) (by omega) (fun h28 => ?_) (fun h28 => ?_)
          · refine zi_iconst hx hb d_Ascii_isLetterOrDigit_35 ?_
            exact zretZ (b := false) S hr hlk d_Ascii_isLetterOrDigit_36 (by refine Eq.symm ?_; simp only [sp_dig, sp_let, sp_wrd, Bool.or_eq_true, Bool.or_eq_false_iff, decide_eq_true_eq, decide_eq_false_iff_not] at *; omega)
          · refine zi_iconst hx hb d_Ascii_isLetterOrDigit_31 ?_
            refine lv_goto hx hb d_Ascii_isLetterOrDigit_32 rfl ?_
            exact zretZ (b := true) S hr hlk d_Ascii_isLetterOrDigit_36 (by refine Eq.symm ?_; simp only [sp_dig, sp_let, sp_wrd, Bool.or_eq_true, Bool.or_eq_false_iff, decide_eq_true_eq, decide_eq_false_iff_not] at *; omega)

set_option maxRecDepth 100000 in
set_option maxHeartbeats 4000000 in
theorem c_Ascii_isWord (l : Launch) (E : zP) (k : Int) (hk : r32 k) : Met l y_Ascii_isWord (.code y_Ascii_isWord b_Ascii_isWord 1 ( some FieldType.boolean ) :: zw) { frames := 2, cells := 0, slots := 0, locals := 40 } (zPc E [.int (iI k)] (fun _ => True)) (zR (some (.int (iI (bN (sp_wrd k)))))) 0 0 (fun _ => False) := by
  refine zMet (by decide) (Nat.le_of_ble_eq_true rfl) ?_
  intro p e s m below meth c ls S hr hlk hnm hE hp hl
  have hx := S.1
  have hb := S.2.1
  have hl : lv_has ls 1 [(0, .int (iI k))] := hl
  refine lv_iload_n hx hb d_Ascii_isWord_0 rfl (lv_at hl 0 rfl) ?_
  refine zi_bipush hx hb d_Ascii_isWord_1 (by decide) ?_
  refine zi_icmp_eq hx hb d_Ascii_isWord_3 rfl (by omega) (by omega) (fun h3 => ?_) (fun h3 => ?_)
  · refine zi_iconst hx hb d_Ascii_isWord_13 ?_
    refine lv_goto hx hb d_Ascii_isWord_14 rfl ?_
    exact zretZ (b := true) S hr hlk d_Ascii_isWord_18 (by refine Eq.symm ?_; simp only [sp_dig, sp_let, sp_wrd, Bool.or_eq_true, Bool.or_eq_false_iff, decide_eq_true_eq, decide_eq_false_iff_not] at *; omega)
  · refine lv_iload_n hx hb d_Ascii_isWord_6 rfl (lv_at hl 0 rfl) ?_
    refine zcR (va_runS (As := [.int (iI k)]) (rest := []) S (c_Ascii_isLetterOrDigit l E k (by omega)) ⟨zcwB (n := 1) S zw_525 zw_27 zw_523 (by decide +kernel) rfl rfl ⟨Nat.le_of_ble_eq_true rfl, Nat.le_of_ble_eq_true rfl⟩, S.2.2.2.2 _ zw_524⟩ (zPreS hE trivial) rfl rfl hl.1 rfl (lv_room (Nat.le_of_ble_eq_true rfl)) d_Ascii_isWord_7 ⟨Nat.zero_le _, Nat.zero_le _⟩) ?_
    refine zb_ifeq hx hb d_Ascii_isWord_10 rfl (fun h10 => ?_) (fun h10 => ?_)
    · refine zi_iconst hx hb d_Ascii_isWord_17 ?_
      exact zretZ (b := false) S hr hlk d_Ascii_isWord_18 (by refine Eq.symm ?_; simp only [sp_dig, sp_let, sp_wrd, Bool.or_eq_true, Bool.or_eq_false_iff, decide_eq_true_eq, decide_eq_false_iff_not] at *; omega)
    · refine zi_iconst hx hb d_Ascii_isWord_13 ?_
      refine lv_goto hx hb d_Ascii_isWord_14 rfl ?_
      exact zretZ (b := true) S hr hlk d_Ascii_isWord_18 (by refine Eq.symm ?_; simp only [sp_dig, sp_let, sp_wrd, Bool.or_eq_true, Bool.or_eq_false_iff, decide_eq_true_eq, decide_eq_false_iff_not] at *; omega)

set_option maxRecDepth 100000 in
set_option maxHeartbeats 4000000 in
theorem c_Ascii_digit (l : Launch) (E : zP) (k r : Int) (hk : r32 k) (hr0 : 8 ≤ r) (hr1 : r ≤ 16) : Met l y_Ascii_digit (.code y_Ascii_digit b_Ascii_digit 3 ( some FieldType.int ) :: zw) { frames := 0, cells := 0, slots := 0, locals := 0 } (zPc E [.int (iI k), .int (iI r)] (fun _ => True)) (zR (some (.int (iI (if sp_val k < r then sp_val k else -1))))) 0 0 (fun _ => False) := by
  refine zMet (by decide) (Nat.le_of_ble_eq_true rfl) ?_
  intro p e s m below meth c ls S hr hlk hnm hE hp hl
  have hx := S.1
  have hb := S.2.1
  have hl : lv_has ls 3 [(0, .int (iI k)), (1, .int (iI r))] := hl
  refine zi_iconst hx hb d_Ascii_digit_0 ?_
  refine lv_istore_n (lv' := [(2, .int (iI (-1))), (0, .int (iI k)), (1, .int (iI r))]) hx hb d_Ascii_digit_1 rfl hl (by decide) rfl (fun ls hl => ?_)
  refine lv_iload_n hx hb d_Ascii_digit_2 rfl (lv_at hl 1 rfl) ?_
  refine zi_bipush hx hb d_Ascii_digit_3 (by decide) ?_
  refine zi_icmp_lt hx hb d_Ascii_digit_5 rfl (by omega) (by omega) (fun h5 => ?_) (fun h5 => ?_)
  · refine lv_iload_n hx hb d_Ascii_digit_22 rfl (lv_at hl 1 rfl) ?_
    refine zi_bipush hx hb d_Ascii_digit_23 (by decide) ?_
    refine zi_icmp_lt hx hb d_Ascii_digit_25 rfl (by omega) (by omega) (fun h25 => ?_) (fun h25 => ?_)
    · refine lv_iload_n hx hb d_Ascii_digit_45 rfl (lv_at hl 1 rfl) ?_
      refine zi_bipush hx hb d_Ascii_digit_46 (by decide) ?_
      refine zi_icmp_lt hx hb d_Ascii_digit_48 rfl (by omega) (by omega) (fun h48 => ?_) (fun h48 => ?_)
      · refine lv_iload_n hx hb d_Ascii_digit_65 rfl (lv_at hl 0 rfl) ?_
        refine lv_iload_n hx hb d_Ascii_digit_66 rfl (lv_at hl 2 rfl) ?_
        refine zi_icmp_ge hx hb d_Ascii_digit_67 rfl (by omega) (by omega) (fun h67 => ?_) (fun h67 => ?_)
        · refine zi_iconst hx hb d_Ascii_digit_74 ?_
          exact zretI S hr hlk d_Ascii_digit_75 (congrArg iI (by unfold sp_val; omega))
        · refine lv_iload_n hx hb d_Ascii_digit_70 rfl (lv_at hl 0 rfl) ?_
          refine lv_goto hx hb d_Ascii_digit_71 rfl ?_
          exact zretI S hr hlk d_Ascii_digit_75 (congrArg iI (by unfold sp_val; omega))
      · refine lv_iload_n hx hb d_Ascii_digit_51 rfl (lv_at hl 1 rfl) ?_
        refine zi_bipush hx hb d_Ascii_digit_52 (by decide) ?_
        refine zi_icmp_gt hx hb d_Ascii_digit_54 rfl (by omega) (by omega) (fun h54 => ?_) (fun h54 => ?_)
        · refine lv_iload_n hx hb d_Ascii_digit_65 rfl (lv_at hl 0 rfl) ?_
          refine lv_iload_n hx hb d_Ascii_digit_66 rfl (lv_at hl 2 rfl) ?_
          refine zi_icmp_ge hx hb d_Ascii_digit_67 rfl (by omega) (by omega) (fun h67 => ?_) (fun h67 => ?_)
          · refine zi_iconst hx hb d_Ascii_digit_74 ?_
            exact zretI S hr hlk d_Ascii_digit_75 (congrArg iI (by unfold sp_val; omega))
          · refine lv_iload_n hx hb d_Ascii_digit_70 rfl (lv_at hl 0 rfl) ?_
            refine lv_goto hx hb d_Ascii_digit_71 rfl ?_
            exact zretI S hr hlk d_Ascii_digit_75 (congrArg iI (by unfold sp_val; omega))
        · refine lv_iload_n hx hb d_Ascii_digit_57 rfl (lv_at hl 1 rfl) ?_
          refine zi_bipush hx hb d_Ascii_digit_58 (by decide) ?_
          refine zi_isub hx hb d_Ascii_digit_60 ?_
          refine zi_bipush hx hb d_Ascii_digit_61 (by decide) ?_
          refine zi_iadd hx hb d_Ascii_digit_63 ?_
          refine lv_istore_n (lv' := [(2, .int (iI ((k - 65) + 10))), (0, .int (iI k)), (1, .int (iI r))]) hx hb d_Ascii_digit_64 rfl hl (by decide) rfl (fun ls hl => ?_)
          refine lv_iload_n hx hb d_Ascii_digit_65 rfl (lv_at hl 0 rfl) ?_
          refine lv_iload_n hx hb d_Ascii_digit_66 rfl (lv_at hl 2 rfl) ?_
          refine zi_icmp_ge hx hb d_Ascii_digit_67 rfl (by omega) (by omega) (fun h67 => ?_) (fun h67 => ?_)
          · refine zi_iconst hx hb d_Ascii_digit_74 ?_
            exact zretI S hr hlk d_Ascii_digit_75 (congrArg iI (by unfold sp_val; omega))
          · refine lv_iload_n hx hb d_Ascii_digit_70 rfl (lv_at hl 0 rfl) ?_
            refine lv_goto hx hb d_Ascii_digit_71 rfl ?_
            exact zretI S hr hlk d_Ascii_digit_75 (congrArg iI (by unfold sp_val; omega))
    · refine lv_iload_n hx hb d_Ascii_digit_28 rfl (lv_at hl 1 rfl) ?_
      refine zi_bipush hx hb d_Ascii_digit_29 (by decide) ?_
      refine zi_icmp_gt hx hb d_Ascii_digit_31 rfl (by omega) (by omega) (fun h31 => ?_) (fun h31 => ?_)
      · refine lv_iload_n hx hb d_Ascii_digit_45 rfl (lv_at hl 1 rfl) ?_
        refine zi_bipush hx hb d_Ascii_digit_46 (by decide) ?_
        refine zi_icmp_lt hx hb d_Ascii_digit_48 rfl (by omega) (by omega) (fun h48 => ?_) (fun h48 => ?_)
        · refine lv_iload_n hx hb d_Ascii_digit_65 rfl (lv_at hl 0 rfl) ?_
          refine lv_iload_n hx hb d_Ascii_digit_66 rfl (lv_at hl 2 rfl) ?_
          refine zi_icmp_ge hx hb d_Ascii_digit_67 rfl (by omega) (by omega) (fun h67 => ?_) (fun h67 => ?_)
          · refine zi_iconst hx hb d_Ascii_digit_74 ?_
            exact zretI S hr hlk d_Ascii_digit_75 (congrArg iI (by unfold sp_val; omega))
          · refine lv_iload_n hx hb d_Ascii_digit_70 rfl (lv_at hl 0 rfl) ?_
            refine lv_goto hx hb d_Ascii_digit_71 rfl ?_
            exact zretI S hr hlk d_Ascii_digit_75 (congrArg iI (by unfold sp_val; omega))
        · refine lv_iload_n hx hb d_Ascii_digit_51 rfl (lv_at hl 1 rfl) ?_
          refine zi_bipush hx hb d_Ascii_digit_52 (by decide) ?_
          refine zi_icmp_gt hx hb d_Ascii_digit_54 rfl (by omega) (by omega) (fun h54 => ?_) (fun h54 => ?_)
          · refine lv_iload_n hx hb d_Ascii_digit_65 rfl (lv_at hl 0 rfl) ?_
            refine lv_iload_n hx hb d_Ascii_digit_66 rfl (lv_at hl 2 rfl) ?_
            refine zi_icmp_ge hx hb d_Ascii_digit_67 rfl (by omega) (by omega) (fun h67 => ?_) (fun h67 => ?_)
            · refine zi_iconst hx hb d_Ascii_digit_74 ?_
              exact zretI S hr hlk d_Ascii_digit_75 (congrArg iI (by unfold sp_val; omega))
            · refine lv_iload_n hx hb d_Ascii_digit_70 rfl (lv_at hl 0 rfl) ?_
              refine lv_goto hx hb d_Ascii_digit_71 rfl ?_
              exact zretI S hr hlk d_Ascii_digit_75 (congrArg iI (by unfold sp_val; omega))
          · refine lv_iload_n hx hb d_Ascii_digit_57 rfl (lv_at hl 1 rfl) ?_
            refine zi_bipush hx hb d_Ascii_digit_58 (by decide) ?_
            refine zi_isub hx hb d_Ascii_digit_60 ?_
            refine zi_bipush hx hb d_Ascii_digit_61 (by decide) ?_
            refine zi_iadd hx hb d_Ascii_digit_63 ?_
            refine lv_istore_n (lv' := [(2, .int (iI ((k - 65) + 10))), (0, .int (iI k)), (1, .int (iI r))]) hx hb d_Ascii_digit_64 rfl hl (by decide) rfl (fun ls hl => ?_)
            refine lv_iload_n hx hb d_Ascii_digit_65 rfl (lv_at hl 0 rfl) ?_
            refine lv_iload_n hx hb d_Ascii_digit_66 rfl (lv_at hl 2 rfl) ?_
            refine zi_icmp_ge hx hb d_Ascii_digit_67 rfl (by omega) (by omega) (fun h67 => ?_) (fun h67 => ?_)
            · refine zi_iconst hx hb d_Ascii_digit_74 ?_
              exact zretI S hr hlk d_Ascii_digit_75 (congrArg iI (by unfold sp_val; omega))
            · refine lv_iload_n hx hb d_Ascii_digit_70 rfl (lv_at hl 0 rfl) ?_
              refine lv_goto hx hb d_Ascii_digit_71 rfl ?_
              exact zretI S hr hlk d_Ascii_digit_75 (congrArg iI (by unfold sp_val; omega))
      · refine lv_iload_n hx hb d_Ascii_digit_34 rfl (lv_at hl 1 rfl) ?_
        refine zi_bipush hx hb d_Ascii_digit_35 (by decide) ?_
        refine zi_isub hx hb d_Ascii_digit_37 ?_
        refine zi_bipush hx hb d_Ascii_digit_38 (by decide) ?_
        refine zi_iadd hx hb d_Ascii_digit_40 ?_
        refine lv_istore_n (lv' := [(2, .int (iI ((k - 97) + 10))), (0, .int (iI k)), (1, .int (iI r))]) hx hb d_Ascii_digit_41 rfl hl (by decide) rfl (fun ls hl => ?_)
        refine lv_goto hx hb d_Ascii_digit_42 rfl ?_
        refine lv_iload_n hx hb d_Ascii_digit_65 rfl (lv_at hl 0 rfl) ?_
        refine lv_iload_n hx hb d_Ascii_digit_66 rfl (lv_at hl 2 rfl) ?_
        refine zi_icmp_ge hx hb d_Ascii_digit_67 rfl (by omega) (by omega) (fun h67 => ?_) (fun h67 => ?_)
        · refine zi_iconst hx hb d_Ascii_digit_74 ?_
          exact zretI S hr hlk d_Ascii_digit_75 (congrArg iI (by unfold sp_val; omega))
        · refine lv_iload_n hx hb d_Ascii_digit_70 rfl (lv_at hl 0 rfl) ?_
          refine lv_goto hx hb d_Ascii_digit_71 rfl ?_
          exact zretI S hr hlk d_Ascii_digit_75 (congrArg iI (by unfold sp_val; omega))
  · refine lv_iload_n hx hb d_Ascii_digit_8 rfl (lv_at hl 1 rfl) ?_
    refine zi_bipush hx hb d_Ascii_digit_9 (by decide) ?_
    refine zi_icmp_gt hx hb d_Ascii_digit_11 rfl (by omega) (by omega) (fun h11 => ?_) (fun h11 => ?_)
    · refine lv_iload_n hx hb d_Ascii_digit_22 rfl (lv_at hl 1 rfl) ?_
      refine zi_bipush hx hb d_Ascii_digit_23 (by decide) ?_
      refine zi_icmp_lt hx hb d_Ascii_digit_25 rfl (by omega) (by omega) (fun h25 => ?_) (fun h25 => ?_)
      · refine lv_iload_n hx hb d_Ascii_digit_45 rfl (lv_at hl 1 rfl) ?_
        refine zi_bipush hx hb d_Ascii_digit_46 (by decide) ?_
        refine zi_icmp_lt hx hb d_Ascii_digit_48 rfl (by omega) (by omega) (fun h48 => ?_) (fun h48 => ?_)
        · refine lv_iload_n hx hb d_Ascii_digit_65 rfl (lv_at hl 0 rfl) ?_
          refine lv_iload_n hx hb d_Ascii_digit_66 rfl (lv_at hl 2 rfl) ?_
          refine zi_icmp_ge hx hb d_Ascii_digit_67 rfl (by omega) (by omega) (fun h67 => ?_) (fun h67 => ?_)
          · refine zi_iconst hx hb d_Ascii_digit_74 ?_
            exact zretI S hr hlk d_Ascii_digit_75 (congrArg iI (by unfold sp_val; omega))
          · refine lv_iload_n hx hb d_Ascii_digit_70 rfl (lv_at hl 0 rfl) ?_
            refine lv_goto hx hb d_Ascii_digit_71 rfl ?_
            exact zretI S hr hlk d_Ascii_digit_75 (congrArg iI (by unfold sp_val; omega))
        · refine lv_iload_n hx hb d_Ascii_digit_51 rfl (lv_at hl 1 rfl) ?_
          refine zi_bipush hx hb d_Ascii_digit_52 (by decide) ?_
          refine zi_icmp_gt hx hb d_Ascii_digit_54 rfl (by omega) (by omega) (fun h54 => ?_) (fun h54 => ?_)
          · refine lv_iload_n hx hb d_Ascii_digit_65 rfl (lv_at hl 0 rfl) ?_
            refine lv_iload_n hx hb d_Ascii_digit_66 rfl (lv_at hl 2 rfl) ?_
            refine zi_icmp_ge hx hb d_Ascii_digit_67 rfl (by omega) (by omega) (fun h67 => ?_) (fun h67 => ?_)
            · refine zi_iconst hx hb d_Ascii_digit_74 ?_
              exact zretI S hr hlk d_Ascii_digit_75 (congrArg iI (by unfold sp_val; omega))
            · refine lv_iload_n hx hb d_Ascii_digit_70 rfl (lv_at hl 0 rfl) ?_
              refine lv_goto hx hb d_Ascii_digit_71 rfl ?_
              exact zretI S hr hlk d_Ascii_digit_75 (congrArg iI (by unfold sp_val; omega))
          · refine lv_iload_n hx hb d_Ascii_digit_57 rfl (lv_at hl 1 rfl) ?_
            refine zi_bipush hx hb d_Ascii_digit_58 (by decide) ?_
            refine zi_isub hx hb d_Ascii_digit_60 ?_
            refine zi_bipush hx hb d_Ascii_digit_61 (by decide) ?_
            refine zi_iadd hx hb d_Ascii_digit_63 ?_
            refine lv_istore_n (lv' := [(2, .int (iI ((k - 65) + 10))), (0, .int (iI k)), (1, .int (iI r))]) hx hb d_Ascii_digit_64 rfl hl (by decide) rfl (fun ls hl => ?_)
            refine lv_iload_n hx hb d_Ascii_digit_65 rfl (lv_at hl 0 rfl) ?_
            refine lv_iload_n hx hb d_Ascii_digit_66 rfl (lv_at hl 2 rfl) ?_
            refine zi_icmp_ge hx hb d_Ascii_digit_67 rfl (by omega) (by omega) (fun h67 => ?_) (fun h67 => ?_)
            · refine zi_iconst hx hb d_Ascii_digit_74 ?_
              exact zretI S hr hlk d_Ascii_digit_75 (congrArg iI (by unfold sp_val; omega))
            · refine lv_iload_n hx hb d_Ascii_digit_70 rfl (lv_at hl 0 rfl) ?_
              refine lv_goto hx hb d_Ascii_digit_71 rfl ?_
              exact zretI S hr hlk d_Ascii_digit_75 (congrArg iI (by unfold sp_val; omega))
      · refine lv_iload_n hx hb d_Ascii_digit_28 rfl (lv_at hl 1 rfl) ?_
        refine zi_bipush hx hb d_Ascii_digit_29 (by decide) ?_
        refine zi_icmp_gt hx hb d_Ascii_digit_31 rfl (by omega) (by omega) (fun h31 => ?_) (fun h31 => ?_)
        · refine lv_iload_n hx hb d_Ascii_digit_45 rfl (lv_at hl 1 rfl) ?_
          refine zi_bipush hx hb d_Ascii_digit_46 (by decide) ?_
          refine zi_icmp_lt hx hb d_Ascii_digit_48 rfl (by omega) (by omega) (fun h48 => ?_) (fun h48 => ?_)
          · refine lv_iload_n hx hb d_Ascii_digit_65 rfl (lv_at hl 0 rfl) ?_
            refine lv_iload_n hx hb d_Ascii_digit_66 rfl (lv_at hl 2 rfl) ?_
            refine zi_icmp_ge hx hb d_Ascii_digit_67 rfl (by omega) (by omega) (fun h67 => ?_) (fun h67 => ?_)
            · refine zi_iconst hx hb d_Ascii_digit_74 ?_
              exact zretI S hr hlk d_Ascii_digit_75 (congrArg iI (by unfold sp_val; omega))
            · refine lv_iload_n hx hb d_Ascii_digit_70 rfl (lv_at hl 0 rfl) ?_
              refine lv_goto hx hb d_Ascii_digit_71 rfl ?_
              exact zretI S hr hlk d_Ascii_digit_75 (congrArg iI (by unfold sp_val; omega))
          · refine lv_iload_n hx hb d_Ascii_digit_51 rfl (lv_at hl 1 rfl) ?_
            refine zi_bipush hx hb d_Ascii_digit_52 (by decide) ?_
            refine zi_icmp_gt hx hb d_Ascii_digit_54 rfl (by omega) (by omega) (fun h54 => ?_) (fun h54 => ?_)
            · refine lv_iload_n hx hb d_Ascii_digit_65 rfl (lv_at hl 0 rfl) ?_
              refine lv_iload_n hx hb d_Ascii_digit_66 rfl (lv_at hl 2 rfl) ?_
              refine zi_icmp_ge hx hb d_Ascii_digit_67 rfl (by omega) (by omega) (fun h67 => ?_) (fun h67 => ?_)
              · refine zi_iconst hx hb d_Ascii_digit_74 ?_
                exact zretI S hr hlk d_Ascii_digit_75 (congrArg iI (by unfold sp_val; omega))
              · refine lv_iload_n hx hb d_Ascii_digit_70 rfl (lv_at hl 0 rfl) ?_
                refine lv_goto hx hb d_Ascii_digit_71 rfl ?_
                exact zretI S hr hlk d_Ascii_digit_75 (congrArg iI (by unfold sp_val; omega))
            · refine lv_iload_n hx hb d_Ascii_digit_57 rfl (lv_at hl 1 rfl) ?_
              refine zi_bipush hx hb d_Ascii_digit_58 (by decide) ?_
              refine zi_isub hx hb d_Ascii_digit_60 ?_
              refine zi_bipush hx hb d_Ascii_digit_61 (by decide) ?_
              refine zi_iadd hx hb d_Ascii_digit_63 ?_
              refine lv_istore_n (lv' := [(2, .int (iI ((k - 65) + 10))), (0, .int (iI k)), (1, .int (iI r))]) hx hb d_Ascii_digit_64 rfl hl (by decide) rfl (fun ls hl => ?_)
              refine lv_iload_n hx hb d_Ascii_digit_65 rfl (lv_at hl 0 rfl) ?_
              refine lv_iload_n hx hb d_Ascii_digit_66 rfl (lv_at hl 2 rfl) ?_
              refine zi_icmp_ge hx hb d_Ascii_digit_67 rfl (by omega) (by omega) (fun h67 => ?_) (fun h67 => ?_)
              · refine zi_iconst hx hb d_Ascii_digit_74 ?_
                exact zretI S hr hlk d_Ascii_digit_75 (congrArg iI (by unfold sp_val; omega))
              · refine lv_iload_n hx hb d_Ascii_digit_70 rfl (lv_at hl 0 rfl) ?_
                refine lv_goto hx hb d_Ascii_digit_71 rfl ?_
                exact zretI S hr hlk d_Ascii_digit_75 (congrArg iI (by unfold sp_val; omega))
        · refine lv_iload_n hx hb d_Ascii_digit_34 rfl (lv_at hl 1 rfl) ?_
          refine zi_bipush hx hb d_Ascii_digit_35 (by decide) ?_
          refine zi_isub hx hb d_Ascii_digit_37 ?_
          refine zi_bipush hx hb d_Ascii_digit_38 (by decide) ?_
          refine zi_iadd hx hb d_Ascii_digit_40 ?_
          refine lv_istore_n (lv' := [(2, .int (iI ((k - 97) + 10))), (0, .int (iI k)), (1, .int (iI r))]) hx hb d_Ascii_digit_41 rfl hl (by decide) rfl (fun ls hl => ?_)
          refine lv_goto hx hb d_Ascii_digit_42 rfl ?_
          refine lv_iload_n hx hb d_Ascii_digit_65 rfl (lv_at hl 0 rfl) ?_
          refine lv_iload_n hx hb d_Ascii_digit_66 rfl (lv_at hl 2 rfl) ?_
          refine zi_icmp_ge hx hb d_Ascii_digit_67 rfl (by omega) (by omega) (fun h67 => ?_) (fun h67 => ?_)
          · refine zi_iconst hx hb d_Ascii_digit_74 ?_
            exact zretI S hr hlk d_Ascii_digit_75 (congrArg iI (by unfold sp_val; omega))
          · refine lv_iload_n hx hb d_Ascii_digit_70 rfl (lv_at hl 0 rfl) ?_
            refine lv_goto hx hb d_Ascii_digit_71 rfl ?_
            exact zretI S hr hlk d_Ascii_digit_75 (congrArg iI (by unfold sp_val; omega))
    · refine lv_iload_n hx hb d_Ascii_digit_14 rfl (lv_at hl 1 rfl) ?_
      refine zi_bipush hx hb d_Ascii_digit_15 (by decide) ?_
      refine zi_isub hx hb d_Ascii_digit_17 ?_
      refine lv_istore_n (lv' := [(2, .int (iI (k - 48))), (0, .int (iI k)), (1, .int (iI r))]) hx hb d_Ascii_digit_18 rfl hl (by decide) rfl (fun ls hl => ?_)
      refine lv_goto hx hb d_Ascii_digit_19 rfl ?_
      refine lv_iload_n hx hb d_Ascii_digit_65 rfl (lv_at hl 0 rfl) ?_
      refine lv_iload_n hx hb d_Ascii_digit_66 rfl (lv_at hl 2 rfl) ?_
      refine zi_icmp_ge hx hb d_Ascii_digit_67 rfl (by omega) (by omega) (fun h67 => ?_) (fun h67 => ?_)
      · refine zi_iconst hx hb d_Ascii_digit_74 ?_
        exact zretI S hr hlk d_Ascii_digit_75 (congrArg iI (by unfold sp_val; omega))
      · refine lv_iload_n hx hb d_Ascii_digit_70 rfl (lv_at hl 0 rfl) ?_
        refine lv_goto hx hb d_Ascii_digit_71 rfl ?_
        exact zretI S hr hlk d_Ascii_digit_75 (congrArg iI (by unfold sp_val; omega))
end
section
set_option maxRecDepth 100000 in
set_option maxHeartbeats 4000000 in
theorem c_Encoding_lengthOf (l : Launch) (E : zP) (h : Nat) (utf : Bool) (k : Nat) (hk : k < 2147483648) : Met l y_Encoding_lengthOf (.code y_Encoding_lengthOf b_Encoding_lengthOf 2 ( some FieldType.int ) :: zw) { frames := 0, cells := 0, slots := 0, locals := 0 } (zPc E [.ref h, .int (iI ((k : Nat) : Int))] (zO E 2 h [.int (iI (bN utf))])) (zR (some (.int (iI (sp_len utf k : Nat))))) 0 0 (fun _ => False) := by
  refine zMet (by decide) (Nat.le_of_ble_eq_true rfl) ?_
  intro p e s m below meth c ls S hr hlk hnm hE hp hl
  have hx := S.1
  have hb := S.2.1
  have hl : lv_has ls 2 [(0, .ref h), (1, .int (iI ((k : Nat) : Int)))] := hl
  refine lv_aload_n hx hb d_Encoding_lengthOf_0 rfl (lv_at hl 0 rfl) ?_
  refine zgf S hE (ci := 2) rfl i_Encoding hp 0 (by decide) zw_127 rfl d_Encoding_lengthOf_1 ?_
  refine zb_ifeq hx hb d_Encoding_lengthOf_4 rfl (fun h4 => ?_) (fun h4 => ?_)
  · refine zi_iconst hx hb d_Encoding_lengthOf_14 ?_
    exact zretI S hr hlk d_Encoding_lengthOf_15 (congrArg iI (by subst h4; unfold sp_len; simp only [Bool.true_eq_false, Bool.false_eq_true, reduceCtorEq, false_or, true_or, if_true, if_false, ite_true]; first | rfl | ((repeat' split) <;> omega)))
  · refine lv_iload_n hx hb d_Encoding_lengthOf_7 rfl (lv_at hl 1 rfl) ?_
    refine zi_sipush hx hb d_Encoding_lengthOf_8 (by decide) ?_
    refine zi_icmp_ge hx hb d_Encoding_lengthOf_11 rfl (by omega) (by omega) (fun h11 => ?_) (fun h11 => ?_)
    · refine lv_iload_n hx hb d_Encoding_lengthOf_16 rfl (lv_at hl 1 rfl) ?_
      refine zi_sipush hx hb d_Encoding_lengthOf_17 (by decide) ?_
      refine zi_icmp_ge hx hb d_Encoding_lengthOf_20 rfl (by omega) (by omega) (fun h20 => ?_) (fun h20 => ?_)
      · refine lv_iload_n hx hb d_Encoding_lengthOf_25 rfl (lv_at hl 1 rfl) ?_
        refine zldc (n := 65536) S zw_458 (by decide) d_Encoding_lengthOf_26 ?_
        refine zi_icmp_ge hx hb d_Encoding_lengthOf_28 rfl (by omega) (by omega) (fun h28 => ?_) (fun h28 => ?_)
        · refine zi_iconst hx hb d_Encoding_lengthOf_35 ?_
          exact zretI S hr hlk d_Encoding_lengthOf_36 (congrArg iI (by subst h4; unfold sp_len; simp only [Bool.true_eq_false, Bool.false_eq_true, reduceCtorEq, false_or, true_or, if_true, if_false, ite_true]; first | rfl | ((repeat' split) <;> omega)))
        · refine zi_iconst hx hb d_Encoding_lengthOf_31 ?_
          refine lv_goto hx hb d_Encoding_lengthOf_32 rfl ?_
          exact zretI S hr hlk d_Encoding_lengthOf_36 (congrArg iI (by subst h4; unfold sp_len; simp only [Bool.true_eq_false, Bool.false_eq_true, reduceCtorEq, false_or, true_or, if_true, if_false, ite_true]; first | rfl | ((repeat' split) <;> omega)))
      · refine zi_iconst hx hb d_Encoding_lengthOf_23 ?_
        exact zretI S hr hlk d_Encoding_lengthOf_24 (congrArg iI (by subst h4; unfold sp_len; simp only [Bool.true_eq_false, Bool.false_eq_true, reduceCtorEq, false_or, true_or, if_true, if_false, ite_true]; first | rfl | ((repeat' split) <;> omega)))
    · refine zi_iconst hx hb d_Encoding_lengthOf_14 ?_
      exact zretI S hr hlk d_Encoding_lengthOf_15 (congrArg iI (by subst h4; unfold sp_len; simp only [Bool.true_eq_false, Bool.false_eq_true, reduceCtorEq, false_or, true_or, if_true, if_false, ite_true]; first | rfl | ((repeat' split) <;> omega)))

set_option maxRecDepth 100000 in
set_option maxHeartbeats 4000000 in
theorem c_Encoding_lengthBehind (l : Launch) (E : zP) (h : Nat) (utf : Bool) (k : Nat) (hk : k < 256) : Met l y_Encoding_lengthBehind (.code y_Encoding_lengthBehind b_Encoding_lengthBehind 2 ( some FieldType.int ) :: zw) { frames := 0, cells := 0, slots := 0, locals := 0 } (zPc E [.ref h, .int (iI ((k : Nat) : Int))] (zO E 2 h [.int (iI (bN utf))])) (zR (some (.int (iI (sp_lead utf k : Nat))))) 0 0 (fun _ => False) := by
  refine zMet (by decide) (Nat.le_of_ble_eq_true rfl) ?_
  intro p e s m below meth c ls S hr hlk hnm hE hp hl
  have hx := S.1
  have hb := S.2.1
  have hl : lv_has ls 2 [(0, .ref h), (1, .int (iI ((k : Nat) : Int)))] := hl
  refine lv_aload_n hx hb d_Encoding_lengthBehind_0 rfl (lv_at hl 0 rfl) ?_
  refine zgf S hE (ci := 2) rfl i_Encoding hp 0 (by decide) zw_127 rfl d_Encoding_lengthBehind_1 ?_
  refine zb_ifeq hx hb d_Encoding_lengthBehind_4 rfl (fun h4 => ?_) (fun h4 => ?_)
  · refine zi_iconst hx hb d_Encoding_lengthBehind_14 ?_
    exact zretI S hr hlk d_Encoding_lengthBehind_15 (congrArg iI (by subst h4; unfold sp_lead; simp only [Bool.true_eq_false, Bool.false_eq_true, reduceCtorEq, false_or, true_or, if_true, if_false, ite_true]; first | rfl | ((repeat' split) <;> omega)))
  · refine lv_iload_n hx hb d_Encoding_lengthBehind_7 rfl (lv_at hl 1 rfl) ?_
    refine zi_sipush hx hb d_Encoding_lengthBehind_8 (by decide) ?_
    refine zi_icmp_ge hx hb d_Encoding_lengthBehind_11 rfl (by omega) (by omega) (fun h11 => ?_) (fun h11 => ?_)
    · refine lv_iload_n hx hb d_Encoding_lengthBehind_16 rfl (lv_at hl 1 rfl) ?_
      refine zi_sipush hx hb d_Encoding_lengthBehind_17 (by decide) ?_
      refine zi_icmp_lt hx hb d_Encoding_lengthBehind_20 rfl (by omega) (by omega) (fun h20 => ?_) (fun h20 => ?_)
      · refine zi_iconst hx hb d_Encoding_lengthBehind_30 ?_
        exact zretI S hr hlk d_Encoding_lengthBehind_31 (congrArg iI (by subst h4; unfold sp_lead; simp only [Bool.true_eq_false, Bool.false_eq_true, reduceCtorEq, false_or, true_or, if_true, if_false, ite_true]; first | rfl | ((repeat' split) <;> omega)))
      · refine lv_iload_n hx hb d_Encoding_lengthBehind_23 rfl (lv_at hl 1 rfl) ?_
        refine zi_sipush hx hb d_Encoding_lengthBehind_24 (by decide) ?_
        refine zi_icmp_le hx hb d_Encoding_lengthBehind_27 rfl (by omega) (by omega) (fun h27 => ?_) (fun h27 => ?_)
        · refine lv_iload_n hx hb d_Encoding_lengthBehind_32 rfl (lv_at hl 1 rfl) ?_
          refine zi_sipush hx hb d_Encoding_lengthBehind_33 (by decide) ?_
          refine zi_icmp_ge hx hb d_Encoding_lengthBehind_36 rfl (by omega) (by omega) (fun h36 => ?_) (fun h36 => ?_)
          · refine lv_iload_n hx hb d_Encoding_lengthBehind_41 rfl (lv_at hl 1 rfl) ?_
            refine zi_sipush hx hb d_Encoding_lengthBehind_42 (by decide) ?_
            refine zi_icmp_ge hx hb d_Encoding_lengthBehind_45 rfl (by omega) (by omega) (fun h45 => ?_) (fun h45 => ?_)
            · refine zi_iconst hx hb d_Encoding_lengthBehind_52 ?_
              exact zretI S hr hlk d_Encoding_lengthBehind_53 (congrArg iI (by subst h4; unfold sp_lead; simp only [Bool.true_eq_false, Bool.false_eq_true, reduceCtorEq, false_or, true_or, if_true, if_false, ite_true]; first | rfl | ((repeat' split) <;> omega)))
            · refine zi_iconst hx hb d_Encoding_lengthBehind_48 ?_
              refine lv_goto hx hb d_Encoding_lengthBehind_49 rfl ?_
              exact zretI S hr hlk d_Encoding_lengthBehind_53 (congrArg iI (by subst h4; unfold sp_lead; simp only [Bool.true_eq_false, Bool.false_eq_true, reduceCtorEq, false_or, true_or, if_true, if_false, ite_true]; first | rfl | ((repeat' split) <;> omega)))
          · refine zi_iconst hx hb d_Encoding_lengthBehind_39 ?_
            exact zretI S hr hlk d_Encoding_lengthBehind_40 (congrArg iI (by subst h4; unfold sp_lead; simp only [Bool.true_eq_false, Bool.false_eq_true, reduceCtorEq, false_or, true_or, if_true, if_false, ite_true]; first | rfl | ((repeat' split) <;> omega)))
        · refine zi_iconst hx hb d_Encoding_lengthBehind_30 ?_
          exact zretI S hr hlk d_Encoding_lengthBehind_31 (congrArg iI (by subst h4; unfold sp_lead; simp only [Bool.true_eq_false, Bool.false_eq_true, reduceCtorEq, false_or, true_or, if_true, if_false, ite_true]; first | rfl | ((repeat' split) <;> omega)))
    · refine zi_iconst hx hb d_Encoding_lengthBehind_14 ?_
      exact zretI S hr hlk d_Encoding_lengthBehind_15 (congrArg iI (by subst h4; unfold sp_lead; simp only [Bool.true_eq_false, Bool.false_eq_true, reduceCtorEq, false_or, true_or, if_true, if_false, ite_true]; first | rfl | ((repeat' split) <;> omega)))

set_option maxRecDepth 100000 in
set_option maxHeartbeats 4000000 in
theorem c_Encoding_exists (l : Launch) (E : zP) (h : Nat) (utf : Bool) (k : Nat) (hk : k < 1099511627776) : Met l y_Encoding_exists (.code y_Encoding_exists b_Encoding_exists 3 ( some FieldType.boolean ) :: zw) { frames := 0, cells := 0, slots := 0, locals := 0 } (zPc E [.ref h, .long (jL ((k : Nat) : Int))] (zO E 2 h [.int (iI (bN utf))])) (zR (some (.int (iI (bN (sp_ok utf k)))))) 0 0 (fun _ => False) := by
  refine zMet (by decide) (Nat.le_of_ble_eq_true rfl) ?_
  intro p e s m below meth c ls S hr hlk hnm hE hp hl
  have hx := S.1
  have hb := S.2.1
  have hl : lv_has ls 3 [(0, .ref h), (1, .long (jL ((k : Nat) : Int)))] := hl
  refine lv_aload_n hx hb d_Encoding_exists_0 rfl (lv_at hl 0 rfl) ?_
  refine zgf S hE (ci := 2) rfl i_Encoding hp 0 (by decide) zw_127 rfl d_Encoding_exists_1 ?_
  refine zb_ifne hx hb d_Encoding_exists_4 rfl (fun h4 => ?_) (fun h4 => ?_)
  · refine lv_lload_n hx hb d_Encoding_exists_27 rfl (lv_at hl 1 rfl) ?_
    refine zl_lconst (a := 0) hx hb d_Encoding_exists_28 (by decide) ?_
    refine zl_if_lt hx hb d_Encoding_exists_29 d_Encoding_exists_30 rfl (by omega) (by omega) (fun h30 => ?_) (fun h30 => ?_)
    · refine zi_iconst hx hb d_Encoding_exists_61 ?_
      exact zretZ (b := false) S hr hlk d_Encoding_exists_62 (by refine Eq.symm ?_; unfold sp_ok; subst h4; simp; omega)
    · refine lv_lload_n hx hb d_Encoding_exists_33 rfl (lv_at hl 1 rfl) ?_
      refine zl_ldc2 S zw_451 (show _ = jL 1114111 by decide) d_Encoding_exists_34 ?_
      refine zl_if_gt hx hb d_Encoding_exists_37 d_Encoding_exists_38 rfl (by omega) (by omega) (fun h38 => ?_) (fun h38 => ?_)
      · refine zi_iconst hx hb d_Encoding_exists_61 ?_
        exact zretZ (b := false) S hr hlk d_Encoding_exists_62 (by refine Eq.symm ?_; unfold sp_ok; subst h4; simp; omega)
      · refine lv_lload_n hx hb d_Encoding_exists_41 rfl (lv_at hl 1 rfl) ?_
        refine zl_ldc2 S zw_452 (show _ = jL 55296 by decide) d_Encoding_exists_42 ?_
        refine zl_if_lt hx hb d_Encoding_exists_45 d_Encoding_exists_46 rfl (by omega) (by omega) (fun h46 => ?_) (fun h46 => ?_)
        · refine zi_iconst hx hb d_Encoding_exists_57 ?_
          refine lv_goto hx hb d_Encoding_exists_58 rfl ?_
          exact zretZ (b := true) S hr hlk d_Encoding_exists_62 (by refine Eq.symm ?_; unfold sp_ok; subst h4; simp; omega)
        · refine lv_lload_n hx hb d_Encoding_exists_49 rfl (lv_at hl 1 rfl) ?_
          refine zl_ldc2 S zw_453 (show _ = jL 57343 by decide) d_Encoding_exists_50 ?_
          refine zl_if_le hx hb d_Encoding_exists_53 d_Encoding_exists_54 rfl (by omega) (by omega) (fun h54 => ?_) (fun h54 => ?_)
          · refine zi_iconst hx hb d_Encoding_exists_61 ?_
            exact zretZ (b := false) S hr hlk d_Encoding_exists_62 (by refine Eq.symm ?_; unfold sp_ok; subst h4; simp; omega)
          · refine zi_iconst hx hb d_Encoding_exists_57 ?_
            refine lv_goto hx hb d_Encoding_exists_58 rfl ?_
            exact zretZ (b := true) S hr hlk d_Encoding_exists_62 (by refine Eq.symm ?_; unfold sp_ok; subst h4; simp; omega)
  · refine lv_lload_n hx hb d_Encoding_exists_7 rfl (lv_at hl 1 rfl) ?_
    refine zl_lconst (a := 0) hx hb d_Encoding_exists_8 (by decide) ?_
    refine zl_if_lt hx hb d_Encoding_exists_9 d_Encoding_exists_10 rfl (by omega) (by omega) (fun h10 => ?_) (fun h10 => ?_)
    · refine zi_iconst hx hb d_Encoding_exists_25 ?_
      exact zretZ (b := false) S hr hlk d_Encoding_exists_26 (by refine Eq.symm ?_; unfold sp_ok; subst h4; simp; omega)
    · refine lv_lload_n hx hb d_Encoding_exists_13 rfl (lv_at hl 1 rfl) ?_
      refine zl_ldc2 S zw_450 (show _ = jL 255 by decide) d_Encoding_exists_14 ?_
      refine zl_if_gt hx hb d_Encoding_exists_17 d_Encoding_exists_18 rfl (by omega) (by omega) (fun h18 => ?_) (fun h18 => ?_)
      · refine zi_iconst hx hb d_Encoding_exists_25 ?_
        exact zretZ (b := false) S hr hlk d_Encoding_exists_26 (by refine Eq.symm ?_; unfold sp_ok; subst h4; simp; omega)
      · refine zi_iconst hx hb d_Encoding_exists_21 ?_
        refine lv_goto hx hb d_Encoding_exists_22 rfl ?_
        exact zretZ (b := true) S hr hlk d_Encoding_exists_26 (by refine Eq.symm ?_; unfold sp_ok; subst h4; simp; omega)

set_option maxRecDepth 100000 in
set_option maxHeartbeats 4000000 in
theorem c_Math_max (l : Launch) (E : zP) (x y : Int) (hxx : r32 x) (hy : r32 y) : Met l y_Math_max (.code y_Math_max b_Math_max 2 ( some FieldType.int ) :: zw) { frames := 0, cells := 0, slots := 0, locals := 0 } (zPc E [.int (iI x), .int (iI y)] (fun _ => True)) (zR (some (.int (iI (max x y))))) 0 0 (fun _ => False) := by
  refine zMetF (by decide +kernel) (Nat.le_of_ble_eq_true rfl) ?_
  intro p e s m below meth c ls S hr hlk hnm hE hp hl
  have hx := S.1
  have hb := S.2.1
  have hl : lv_has ls 2 [(0, .int (iI x)), (1, .int (iI y))] := hl
  refine lv_iload_n hx hb d_Math_max_0 rfl (lv_at hl 0 rfl) ?_
  refine lv_iload_n hx hb d_Math_max_1 rfl (lv_at hl 1 rfl) ?_
  refine zi_icmp_lt hx hb d_Math_max_2 rfl (by omega) (by omega) (fun h2 => ?_) (fun h2 => ?_)
  · refine lv_iload_n hx hb d_Math_max_9 rfl (lv_at hl 1 rfl) ?_
    exact zretI S hr hlk d_Math_max_10 (congrArg iI (by omega))
  · refine lv_iload_n hx hb d_Math_max_5 rfl (lv_at hl 0 rfl) ?_
    refine lv_goto hx hb d_Math_max_6 rfl ?_
    exact zretI S hr hlk d_Math_max_10 (congrArg iI (by omega))

set_option maxRecDepth 100000 in
set_option maxHeartbeats 4000000 in
theorem c_Math_min (l : Launch) (E : zP) (x y : Int) (hxx : r32 x) (hy : r32 y) : Met l y_Math_min (.code y_Math_min b_Math_min 2 ( some FieldType.int ) :: zw) { frames := 0, cells := 0, slots := 0, locals := 0 } (zPc E [.int (iI x), .int (iI y)] (fun _ => True)) (zR (some (.int (iI (min x y))))) 0 0 (fun _ => False) := by
  refine zMetF (by decide +kernel) (Nat.le_of_ble_eq_true rfl) ?_
  intro p e s m below meth c ls S hr hlk hnm hE hp hl
  have hx := S.1
  have hb := S.2.1
  have hl : lv_has ls 2 [(0, .int (iI x)), (1, .int (iI y))] := hl
  refine lv_iload_n hx hb d_Math_min_0 rfl (lv_at hl 0 rfl) ?_
  refine lv_iload_n hx hb d_Math_min_1 rfl (lv_at hl 1 rfl) ?_
  refine zi_icmp_gt hx hb d_Math_min_2 rfl (by omega) (by omega) (fun h2 => ?_) (fun h2 => ?_)
  · refine lv_iload_n hx hb d_Math_min_9 rfl (lv_at hl 1 rfl) ?_
    exact zretI S hr hlk d_Math_min_10 (congrArg iI (by omega))
  · refine lv_iload_n hx hb d_Math_min_5 rfl (lv_at hl 0 rfl) ?_
    refine lv_goto hx hb d_Math_min_6 rfl ?_
    exact zretI S hr hlk d_Math_min_10 (congrArg iI (by omega))

set_option maxRecDepth 100000 in
set_option maxHeartbeats 4000000 in
theorem c_Encoding_characterAt (l : Launch) (E : zP) (h r : Nat) (utf : Bool) (b : List Nat) (k : Nat) (hk : k < b.length) (hlen : k + sp_lead utf (sp_b b k) ≤ b.length) : Met l y_Encoding_characterAt (.code y_Encoding_characterAt b_Encoding_characterAt 7 ( some FieldType.int ) :: zw) { frames := 1, cells := 0, slots := 0, locals := 21 } (zPc E [.ref h, .ref r, .int (iI ((k : Nat) : Int))] (fun H => zO E 2 h [.int (iI (bN utf))] H ∧ zrow E r b H)) (zR (some (.int (iI (sp_chr utf b k : Nat))))) 0 0 (fun _ => False) := by
  refine zMet (by decide) (Nat.le_of_ble_eq_true rfl) ?_
  intro p e s m below meth c ls S hr hlk hnm hE ⟨hp, hrow⟩ hl
  have hx := S.1
  have hb := S.2.1
  have hl : lv_has ls 7 [(0, .ref h), (1, .ref r), (2, .int (iI ((k : Nat) : Int)))] := hl
  have hbl := zrow.len hrow
  refine lv_aload_n hx hb d_Encoding_characterAt_0 rfl (lv_at hl 1 rfl) ?_
  refine lv_iload_n hx hb d_Encoding_characterAt_1 rfl (lv_at hl 2 rfl) ?_
  refine zcR (va_runV (As := [.int (iI ((k : Nat) : Int))]) (rest := []) S (c_Row_at l E r b ((k : Nat) : Int) (by omega)) ⟨zcwB (n := 1) S zw_437 zw_2 zw_434 (by decide +kernel) rfl rfl ⟨Nat.le_of_ble_eq_true rfl, Nat.le_of_ble_eq_true rfl⟩, S.2.2.2.2 _ zw_435, S.2.2.2.2 _ zw_436⟩ (zPreVrow hE hrow hrow) rfl rfl hl.1 rfl (lv_room (Nat.le_of_ble_eq_true rfl)) d_Encoding_characterAt_2 ⟨Nat.zero_le _, Nat.zero_le _⟩) ?_
  rw [sp_at_in (n := k) (by omega) (by omega)]
  have hb2 := sp_b_lt (zrow.lt hrow) (k)
  refine lv_istore_n (lv' := [(3, .int (iI ((sp_b b k : Nat) : Int))), (0, .ref h), (1, .ref r), (2, .int (iI ((k : Nat) : Int)))]) hx hb d_Encoding_characterAt_5 rfl hl (by decide) rfl (fun ls hl => ?_)
  refine lv_aload_n hx hb d_Encoding_characterAt_6 rfl (lv_at hl 1 rfl) ?_
  refine lv_iload_n hx hb d_Encoding_characterAt_7 rfl (lv_at hl 0 rfl) ?_
  refine zcR (va_runV (As := [.int (iI ((sp_b b k : Nat) : Int))]) (rest := []) S (c_Encoding_lengthBehind l E h utf (sp_b b k) (by omega)) ⟨zcwB (n := 1) S zw_441 zw_7 zw_438 (by decide +kernel) rfl rfl ⟨Nat.le_of_ble_eq_true rfl, Nat.le_of_ble_eq_true rfl⟩, S.2.2.2.2 _ zw_439, S.2.2.2.2 _ zw_440⟩ (zPreV hE hp rfl hp) rfl rfl hl.1 rfl (lv_room (Nat.le_of_ble_eq_true rfl)) d_Encoding_characterAt_8 ⟨Nat.zero_le _, Nat.zero_le _⟩) ?_
  have hb8 := sp_lead_le utf (sp_b b k)
  refine lv_istore (lv' := [(4, .int (iI ((sp_lead utf (sp_b b k) : Nat) : Int))), (3, .int (iI ((sp_b b k : Nat) : Int))), (0, .ref h), (1, .ref r), (2, .int (iI ((k : Nat) : Int)))]) hx hb d_Encoding_characterAt_11 hl (by decide) rfl (fun ls hl => ?_)
  refine lv_iload hx hb d_Encoding_characterAt_13 (lv_at hl 0 rfl) ?_
  refine zi_iconst hx hb d_Encoding_characterAt_15 ?_
  refine zi_icmp_ge hx hb d_Encoding_characterAt_16 rfl (by omega) (by omega) (fun h16 => ?_) (fun h16 => ?_)
  · have hle := sp_lead_le utf (sp_b b k)
    have h3 : sp_lead utf (sp_b b k) = 2 ∨ sp_lead utf (sp_b b k) = 3 ∨ sp_lead utf (sp_b b k) = 4 := by omega
    rcases h3 with e3 | e3 | e3
    · rw [e3] at hl hlen
      have hl : lv_has ls 7 [(4, .int (iI 2)), (3, .int (iI ((sp_b b k : Nat) : Int))), (0, .ref h), (1, .ref r), (2, .int (iI ((k : Nat) : Int)))] := hl
      refine lv_iload_n hx hb d_Encoding_characterAt_21 rfl (lv_at hl 1 rfl) ?_
      refine zi_bipush hx hb d_Encoding_characterAt_22 (by decide) ?_
      refine lv_iload hx hb d_Encoding_characterAt_24 (lv_at hl 0 rfl) ?_
      refine zi_ishr (r := 31) hx hb d_Encoding_characterAt_26 (by decide) ?_
      refine zi_iand hx hb d_Encoding_characterAt_27 (iI_mask 5 31 32 (by omega) (by decide) (by decide)) ?_
      refine lv_istore (lv' := [(5, .int (iI (((sp_b b k : Nat) : Int) % 32))), (4, .int (iI 2)), (3, .int (iI ((sp_b b k : Nat) : Int))), (0, .ref h), (1, .ref r), (2, .int (iI ((k : Nat) : Int)))]) hx hb d_Encoding_characterAt_28 hl (by decide) rfl (fun ls hl => ?_)
      refine zi_iconst hx hb d_Encoding_characterAt_30 ?_
      refine lv_istore (lv' := [(6, .int (iI 1)), (5, .int (iI (((sp_b b k : Nat) : Int) % 32))), (4, .int (iI 2)), (3, .int (iI ((sp_b b k : Nat) : Int))), (0, .ref h), (1, .ref r), (2, .int (iI ((k : Nat) : Int)))]) hx hb d_Encoding_characterAt_31 hl (by decide) rfl (fun ls hl => ?_)
      refine lv_iload hx hb d_Encoding_characterAt_33 (lv_at hl 0 rfl) ?_
      refine lv_iload hx hb d_Encoding_characterAt_35 (lv_at hl 2 rfl) ?_
      refine zi_icmp_ge hx hb d_Encoding_characterAt_37 rfl (by omega) (by omega) (fun h => absurd h (by omega)) (fun h37 => ?_)
      refine lv_iload hx hb d_Encoding_characterAt_40 (lv_at hl 1 rfl) ?_
      refine zi_bipush hx hb d_Encoding_characterAt_42 (by decide) ?_
      refine zi_ishl hx hb d_Encoding_characterAt_44 (iI_shl6 _) ?_
      refine lv_aload_n hx hb d_Encoding_characterAt_45 rfl (lv_at hl 5 rfl) ?_
      refine lv_iload_n hx hb d_Encoding_characterAt_46 rfl (lv_at hl 6 rfl) ?_
      refine lv_iload hx hb d_Encoding_characterAt_47 (lv_at hl 0 rfl) ?_
      refine zi_iadd hx hb d_Encoding_characterAt_49 ?_
      refine zcR (va_runV (As := [.int (iI (((k : Nat) : Int) + 1))]) (rest := [.int (iI ((((sp_b b k : Nat) : Int) % 32) * 64))]) S (c_Row_at l E r b (((k : Nat) : Int) + 1) (by omega)) ⟨zcwB (n := 1) S zw_437 zw_2 zw_434 (by decide +kernel) rfl rfl ⟨Nat.le_of_ble_eq_true rfl, Nat.le_of_ble_eq_true rfl⟩, S.2.2.2.2 _ zw_435, S.2.2.2.2 _ zw_436⟩ (zPreVrow hE hrow hrow) rfl rfl hl.1 rfl (lv_room (Nat.le_of_ble_eq_true rfl)) d_Encoding_characterAt_50 ⟨Nat.zero_le _, Nat.zero_le _⟩) ?_
      rw [sp_at_in (n := k + 1) (by omega) (by omega)]
      have hb50 := sp_b_lt (zrow.lt hrow) (k + 1)
      refine zi_bipush hx hb d_Encoding_characterAt_53 (by decide) ?_
      refine zi_iand hx hb d_Encoding_characterAt_55 (iI_mask 6 63 64 (by omega) (by decide) (by decide)) ?_
      refine zi_ior hx hb d_Encoding_characterAt_56 (iI_or6 (by omega) (by omega) (by omega)) ?_
      refine lv_istore (lv' := [(5, .int (iI ((((sp_b b k : Nat) : Int) % 32) * 64 + (((sp_b b (k + 1) : Nat) : Int) % 64)))), (6, .int (iI 1)), (4, .int (iI 2)), (3, .int (iI ((sp_b b k : Nat) : Int))), (0, .ref h), (1, .ref r), (2, .int (iI ((k : Nat) : Int)))]) hx hb d_Encoding_characterAt_57 hl (by decide) rfl (fun ls hl => ?_)
      refine lv_iinc (k := 1) (v := (iI 2)) (lv' := [(6, .int (iI 2)), (5, .int (iI ((((sp_b b k : Nat) : Int) % 32) * 64 + (((sp_b b (k + 1) : Nat) : Int) % 64)))), (4, .int (iI 2)), (3, .int (iI ((sp_b b k : Nat) : Int))), (0, .ref h), (1, .ref r), (2, .int (iI ((k : Nat) : Int)))]) hx hb d_Encoding_characterAt_59 hl rfl (by decide) (by decide) rfl (fun ls hl => ?_)
      refine lv_goto hx hb d_Encoding_characterAt_62 rfl ?_
      refine lv_iload hx hb d_Encoding_characterAt_33 (lv_at hl 0 rfl) ?_
      refine lv_iload hx hb d_Encoding_characterAt_35 (lv_at hl 2 rfl) ?_
      refine zi_icmp_ge hx hb d_Encoding_characterAt_37 rfl (by omega) (by omega) (fun h37 => ?_) (fun h => absurd h (by omega))
      refine lv_iload hx hb d_Encoding_characterAt_65 (lv_at hl 1 rfl) ?_
      exact zretI S hr hlk d_Encoding_characterAt_67 (congrArg iI (by unfold sp_chr; simp only; first | (rw [e3]; simp; done) | (rw [if_neg (by omega), if_neg (by omega), if_neg (by omega)])))
    · rw [e3] at hl hlen
      have hl : lv_has ls 7 [(4, .int (iI 3)), (3, .int (iI ((sp_b b k : Nat) : Int))), (0, .ref h), (1, .ref r), (2, .int (iI ((k : Nat) : Int)))] := hl
      refine lv_iload_n hx hb d_Encoding_characterAt_21 rfl (lv_at hl 1 rfl) ?_
      refine zi_bipush hx hb d_Encoding_characterAt_22 (by decide) ?_
      refine lv_iload hx hb d_Encoding_characterAt_24 (lv_at hl 0 rfl) ?_
      refine zi_ishr (r := 15) hx hb d_Encoding_characterAt_26 (by decide) ?_
      refine zi_iand hx hb d_Encoding_characterAt_27 (iI_mask 4 15 16 (by omega) (by decide) (by decide)) ?_
      refine lv_istore (lv' := [(5, .int (iI (((sp_b b k : Nat) : Int) % 16))), (4, .int (iI 3)), (3, .int (iI ((sp_b b k : Nat) : Int))), (0, .ref h), (1, .ref r), (2, .int (iI ((k : Nat) : Int)))]) hx hb d_Encoding_characterAt_28 hl (by decide) rfl (fun ls hl => ?_)
      refine zi_iconst hx hb d_Encoding_characterAt_30 ?_
      refine lv_istore (lv' := [(6, .int (iI 1)), (5, .int (iI (((sp_b b k : Nat) : Int) % 16))), (4, .int (iI 3)), (3, .int (iI ((sp_b b k : Nat) : Int))), (0, .ref h), (1, .ref r), (2, .int (iI ((k : Nat) : Int)))]) hx hb d_Encoding_characterAt_31 hl (by decide) rfl (fun ls hl => ?_)
      refine lv_iload hx hb d_Encoding_characterAt_33 (lv_at hl 0 rfl) ?_
      refine lv_iload hx hb d_Encoding_characterAt_35 (lv_at hl 2 rfl) ?_
      refine zi_icmp_ge hx hb d_Encoding_characterAt_37 rfl (by omega) (by omega) (fun h => absurd h (by omega)) (fun h37 => ?_)
      refine lv_iload hx hb d_Encoding_characterAt_40 (lv_at hl 1 rfl) ?_
      refine zi_bipush hx hb d_Encoding_characterAt_42 (by decide) ?_
      refine zi_ishl hx hb d_Encoding_characterAt_44 (iI_shl6 _) ?_
      refine lv_aload_n hx hb d_Encoding_characterAt_45 rfl (lv_at hl 5 rfl) ?_
      refine lv_iload_n hx hb d_Encoding_characterAt_46 rfl (lv_at hl 6 rfl) ?_
      refine lv_iload hx hb d_Encoding_characterAt_47 (lv_at hl 0 rfl) ?_
      refine zi_iadd hx hb d_Encoding_characterAt_49 ?_
      refine zcR (va_runV (As := [.int (iI (((k : Nat) : Int) + 1))]) (rest := [.int (iI ((((sp_b b k : Nat) : Int) % 16) * 64))]) S (c_Row_at l E r b (((k : Nat) : Int) + 1) (by omega)) ⟨zcwB (n := 1) S zw_437 zw_2 zw_434 (by decide +kernel) rfl rfl ⟨Nat.le_of_ble_eq_true rfl, Nat.le_of_ble_eq_true rfl⟩, S.2.2.2.2 _ zw_435, S.2.2.2.2 _ zw_436⟩ (zPreVrow hE hrow hrow) rfl rfl hl.1 rfl (lv_room (Nat.le_of_ble_eq_true rfl)) d_Encoding_characterAt_50 ⟨Nat.zero_le _, Nat.zero_le _⟩) ?_
      rw [sp_at_in (n := k + 1) (by omega) (by omega)]
      have hb50 := sp_b_lt (zrow.lt hrow) (k + 1)
      refine zi_bipush hx hb d_Encoding_characterAt_53 (by decide) ?_
      refine zi_iand hx hb d_Encoding_characterAt_55 (iI_mask 6 63 64 (by omega) (by decide) (by decide)) ?_
      refine zi_ior hx hb d_Encoding_characterAt_56 (iI_or6 (by omega) (by omega) (by omega)) ?_
      refine lv_istore (lv' := [(5, .int (iI ((((sp_b b k : Nat) : Int) % 16) * 64 + (((sp_b b (k + 1) : Nat) : Int) % 64)))), (6, .int (iI 1)), (4, .int (iI 3)), (3, .int (iI ((sp_b b k : Nat) : Int))), (0, .ref h), (1, .ref r), (2, .int (iI ((k : Nat) : Int)))]) hx hb d_Encoding_characterAt_57 hl (by decide) rfl (fun ls hl => ?_)
      refine lv_iinc (k := 1) (v := (iI 2)) (lv' := [(6, .int (iI 2)), (5, .int (iI ((((sp_b b k : Nat) : Int) % 16) * 64 + (((sp_b b (k + 1) : Nat) : Int) % 64)))), (4, .int (iI 3)), (3, .int (iI ((sp_b b k : Nat) : Int))), (0, .ref h), (1, .ref r), (2, .int (iI ((k : Nat) : Int)))]) hx hb d_Encoding_characterAt_59 hl rfl (by decide) (by decide) rfl (fun ls hl => ?_)
      refine lv_goto hx hb d_Encoding_characterAt_62 rfl ?_
      refine lv_iload hx hb d_Encoding_characterAt_33 (lv_at hl 0 rfl) ?_
      refine lv_iload hx hb d_Encoding_characterAt_35 (lv_at hl 2 rfl) ?_
      refine zi_icmp_ge hx hb d_Encoding_characterAt_37 rfl (by omega) (by omega) (fun h => absurd h (by omega)) (fun h37 => ?_)
      refine lv_iload hx hb d_Encoding_characterAt_40 (lv_at hl 1 rfl) ?_
      refine zi_bipush hx hb d_Encoding_characterAt_42 (by decide) ?_
      refine zi_ishl hx hb d_Encoding_characterAt_44 (iI_shl6 _) ?_
      refine lv_aload_n hx hb d_Encoding_characterAt_45 rfl (lv_at hl 5 rfl) ?_
      refine lv_iload_n hx hb d_Encoding_characterAt_46 rfl (lv_at hl 6 rfl) ?_
      refine lv_iload hx hb d_Encoding_characterAt_47 (lv_at hl 0 rfl) ?_
      refine zi_iadd hx hb d_Encoding_characterAt_49 ?_
      refine zcR (va_runV (As := [.int (iI (((k : Nat) : Int) + 2))]) (rest := [.int (iI (((((sp_b b k : Nat) : Int) % 16) * 64 + (((sp_b b (k + 1) : Nat) : Int) % 64)) * 64))]) S (c_Row_at l E r b (((k : Nat) : Int) + 2) (by omega)) ⟨zcwB (n := 1) S zw_437 zw_2 zw_434 (by decide +kernel) rfl rfl ⟨Nat.le_of_ble_eq_true rfl, Nat.le_of_ble_eq_true rfl⟩, S.2.2.2.2 _ zw_435, S.2.2.2.2 _ zw_436⟩ (zPreVrow hE hrow hrow) rfl rfl hl.1 rfl (lv_room (Nat.le_of_ble_eq_true rfl)) d_Encoding_characterAt_50 ⟨Nat.zero_le _, Nat.zero_le _⟩) ?_
      rw [sp_at_in (n := k + 2) (by omega) (by omega)]
      have hb50 := sp_b_lt (zrow.lt hrow) (k + 2)
      refine zi_bipush hx hb d_Encoding_characterAt_53 (by decide) ?_
      refine zi_iand hx hb d_Encoding_characterAt_55 (iI_mask 6 63 64 (by omega) (by decide) (by decide)) ?_
      refine zi_ior hx hb d_Encoding_characterAt_56 (iI_or6 (by omega) (by omega) (by omega)) ?_
      refine lv_istore (lv' := [(5, .int (iI (((((sp_b b k : Nat) : Int) % 16) * 64 + (((sp_b b (k + 1) : Nat) : Int) % 64)) * 64 + (((sp_b b (k + 2) : Nat) : Int) % 64)))), (6, .int (iI 2)), (4, .int (iI 3)), (3, .int (iI ((sp_b b k : Nat) : Int))), (0, .ref h), (1, .ref r), (2, .int (iI ((k : Nat) : Int)))]) hx hb d_Encoding_characterAt_57 hl (by decide) rfl (fun ls hl => ?_)
      refine lv_iinc (k := 1) (v := (iI 3)) (lv' := [(6, .int (iI 3)), (5, .int (iI (((((sp_b b k : Nat) : Int) % 16) * 64 + (((sp_b b (k + 1) : Nat) : Int) % 64)) * 64 + (((sp_b b (k + 2) : Nat) : Int) % 64)))), (4, .int (iI 3)), (3, .int (iI ((sp_b b k : Nat) : Int))), (0, .ref h), (1, .ref r), (2, .int (iI ((k : Nat) : Int)))]) hx hb d_Encoding_characterAt_59 hl rfl (by decide) (by decide) rfl (fun ls hl => ?_)
      refine lv_goto hx hb d_Encoding_characterAt_62 rfl ?_
      refine lv_iload hx hb d_Encoding_characterAt_33 (lv_at hl 0 rfl) ?_
      refine lv_iload hx hb d_Encoding_characterAt_35 (lv_at hl 2 rfl) ?_
      refine zi_icmp_ge hx hb d_Encoding_characterAt_37 rfl (by omega) (by omega) (fun h37 => ?_) (fun h => absurd h (by omega))
      refine lv_iload hx hb d_Encoding_characterAt_65 (lv_at hl 1 rfl) ?_
      exact zretI S hr hlk d_Encoding_characterAt_67 (congrArg iI (by unfold sp_chr; simp only; first | (rw [e3]; simp; done) | (rw [if_neg (by omega), if_neg (by omega), if_neg (by omega)])))
    · rw [e3] at hl hlen
      have hl : lv_has ls 7 [(4, .int (iI 4)), (3, .int (iI ((sp_b b k : Nat) : Int))), (0, .ref h), (1, .ref r), (2, .int (iI ((k : Nat) : Int)))] := hl
      refine lv_iload_n hx hb d_Encoding_characterAt_21 rfl (lv_at hl 1 rfl) ?_
      refine zi_bipush hx hb d_Encoding_characterAt_22 (by decide) ?_
      refine lv_iload hx hb d_Encoding_characterAt_24 (lv_at hl 0 rfl) ?_
      refine zi_ishr (r := 7) hx hb d_Encoding_characterAt_26 (by decide) ?_
      refine zi_iand hx hb d_Encoding_characterAt_27 (iI_mask 3 7 8 (by omega) (by decide) (by decide)) ?_
      refine lv_istore (lv' := [(5, .int (iI (((sp_b b k : Nat) : Int) % 8))), (4, .int (iI 4)), (3, .int (iI ((sp_b b k : Nat) : Int))), (0, .ref h), (1, .ref r), (2, .int (iI ((k : Nat) : Int)))]) hx hb d_Encoding_characterAt_28 hl (by decide) rfl (fun ls hl => ?_)
      refine zi_iconst hx hb d_Encoding_characterAt_30 ?_
      refine lv_istore (lv' := [(6, .int (iI 1)), (5, .int (iI (((sp_b b k : Nat) : Int) % 8))), (4, .int (iI 4)), (3, .int (iI ((sp_b b k : Nat) : Int))), (0, .ref h), (1, .ref r), (2, .int (iI ((k : Nat) : Int)))]) hx hb d_Encoding_characterAt_31 hl (by decide) rfl (fun ls hl => ?_)
      refine lv_iload hx hb d_Encoding_characterAt_33 (lv_at hl 0 rfl) ?_
      refine lv_iload hx hb d_Encoding_characterAt_35 (lv_at hl 2 rfl) ?_
      refine zi_icmp_ge hx hb d_Encoding_characterAt_37 rfl (by omega) (by omega) (fun h => absurd h (by omega)) (fun h37 => ?_)
      refine lv_iload hx hb d_Encoding_characterAt_40 (lv_at hl 1 rfl) ?_
      refine zi_bipush hx hb d_Encoding_characterAt_42 (by decide) ?_
      refine zi_ishl hx hb d_Encoding_characterAt_44 (iI_shl6 _) ?_
      refine lv_aload_n hx hb d_Encoding_characterAt_45 rfl (lv_at hl 5 rfl) ?_
      refine lv_iload_n hx hb d_Encoding_characterAt_46 rfl (lv_at hl 6 rfl) ?_
      refine lv_iload hx hb d_Encoding_characterAt_47 (lv_at hl 0 rfl) ?_
      refine zi_iadd hx hb d_Encoding_characterAt_49 ?_
      refine zcR (va_runV (As := [.int (iI (((k : Nat) : Int) + 1))]) (rest := [.int (iI ((((sp_b b k : Nat) : Int) % 8) * 64))]) S (c_Row_at l E r b (((k : Nat) : Int) + 1) (by omega)) ⟨zcwB (n := 1) S zw_437 zw_2 zw_434 (by decide +kernel) rfl rfl ⟨Nat.le_of_ble_eq_true rfl, Nat.le_of_ble_eq_true rfl⟩, S.2.2.2.2 _ zw_435, S.2.2.2.2 _ zw_436⟩ (zPreVrow hE hrow hrow) rfl rfl hl.1 rfl (lv_room (Nat.le_of_ble_eq_true rfl)) d_Encoding_characterAt_50 ⟨Nat.zero_le _, Nat.zero_le _⟩) ?_
      rw [sp_at_in (n := k + 1) (by omega) (by omega)]
      have hb50 := sp_b_lt (zrow.lt hrow) (k + 1)
      refine zi_bipush hx hb d_Encoding_characterAt_53 (by decide) ?_
      refine zi_iand hx hb d_Encoding_characterAt_55 (iI_mask 6 63 64 (by omega) (by decide) (by decide)) ?_
      refine zi_ior hx hb d_Encoding_characterAt_56 (iI_or6 (by omega) (by omega) (by omega)) ?_
      refine lv_istore (lv' := [(5, .int (iI ((((sp_b b k : Nat) : Int) % 8) * 64 + (((sp_b b (k + 1) : Nat) : Int) % 64)))), (6, .int (iI 1)), (4, .int (iI 4)), (3, .int (iI ((sp_b b k : Nat) : Int))), (0, .ref h), (1, .ref r), (2, .int (iI ((k : Nat) : Int)))]) hx hb d_Encoding_characterAt_57 hl (by decide) rfl (fun ls hl => ?_)
      refine lv_iinc (k := 1) (v := (iI 2)) (lv' := [(6, .int (iI 2)), (5, .int (iI ((((sp_b b k : Nat) : Int) % 8) * 64 + (((sp_b b (k + 1) : Nat) : Int) % 64)))), (4, .int (iI 4)), (3, .int (iI ((sp_b b k : Nat) : Int))), (0, .ref h), (1, .ref r), (2, .int (iI ((k : Nat) : Int)))]) hx hb d_Encoding_characterAt_59 hl rfl (by decide) (by decide) rfl (fun ls hl => ?_)
      refine lv_goto hx hb d_Encoding_characterAt_62 rfl ?_
      refine lv_iload hx hb d_Encoding_characterAt_33 (lv_at hl 0 rfl) ?_
      refine lv_iload hx hb d_Encoding_characterAt_35 (lv_at hl 2 rfl) ?_
      refine zi_icmp_ge hx hb d_Encoding_characterAt_37 rfl (by omega) (by omega) (fun h => absurd h (by omega)) (fun h37 => ?_)
      refine lv_iload hx hb d_Encoding_characterAt_40 (lv_at hl 1 rfl) ?_
      refine zi_bipush hx hb d_Encoding_characterAt_42 (by decide) ?_
      refine zi_ishl hx hb d_Encoding_characterAt_44 (iI_shl6 _) ?_
      refine lv_aload_n hx hb d_Encoding_characterAt_45 rfl (lv_at hl 5 rfl) ?_
      refine lv_iload_n hx hb d_Encoding_characterAt_46 rfl (lv_at hl 6 rfl) ?_
      refine lv_iload hx hb d_Encoding_characterAt_47 (lv_at hl 0 rfl) ?_
      refine zi_iadd hx hb d_Encoding_characterAt_49 ?_
      refine zcR (va_runV (As := [.int (iI (((k : Nat) : Int) + 2))]) (rest := [.int (iI (((((sp_b b k : Nat) : Int) % 8) * 64 + (((sp_b b (k + 1) : Nat) : Int) % 64)) * 64))]) S (c_Row_at l E r b (((k : Nat) : Int) + 2) (by omega)) ⟨zcwB (n := 1) S zw_437 zw_2 zw_434 (by decide +kernel) rfl rfl ⟨Nat.le_of_ble_eq_true rfl, Nat.le_of_ble_eq_true rfl⟩, S.2.2.2.2 _ zw_435, S.2.2.2.2 _ zw_436⟩ (zPreVrow hE hrow hrow) rfl rfl hl.1 rfl (lv_room (Nat.le_of_ble_eq_true rfl)) d_Encoding_characterAt_50 ⟨Nat.zero_le _, Nat.zero_le _⟩) ?_
      rw [sp_at_in (n := k + 2) (by omega) (by omega)]
      have hb50 := sp_b_lt (zrow.lt hrow) (k + 2)
      refine zi_bipush hx hb d_Encoding_characterAt_53 (by decide) ?_
      refine zi_iand hx hb d_Encoding_characterAt_55 (iI_mask 6 63 64 (by omega) (by decide) (by decide)) ?_
      refine zi_ior hx hb d_Encoding_characterAt_56 (iI_or6 (by omega) (by omega) (by omega)) ?_
      refine lv_istore (lv' := [(5, .int (iI (((((sp_b b k : Nat) : Int) % 8) * 64 + (((sp_b b (k + 1) : Nat) : Int) % 64)) * 64 + (((sp_b b (k + 2) : Nat) : Int) % 64)))), (6, .int (iI 2)), (4, .int (iI 4)), (3, .int (iI ((sp_b b k : Nat) : Int))), (0, .ref h), (1, .ref r), (2, .int (iI ((k : Nat) : Int)))]) hx hb d_Encoding_characterAt_57 hl (by decide) rfl (fun ls hl => ?_)
      refine lv_iinc (k := 1) (v := (iI 3)) (lv' := [(6, .int (iI 3)), (5, .int (iI (((((sp_b b k : Nat) : Int) % 8) * 64 + (((sp_b b (k + 1) : Nat) : Int) % 64)) * 64 + (((sp_b b (k + 2) : Nat) : Int) % 64)))), (4, .int (iI 4)), (3, .int (iI ((sp_b b k : Nat) : Int))), (0, .ref h), (1, .ref r), (2, .int (iI ((k : Nat) : Int)))]) hx hb d_Encoding_characterAt_59 hl rfl (by decide) (by decide) rfl (fun ls hl => ?_)
      refine lv_goto hx hb d_Encoding_characterAt_62 rfl ?_
      refine lv_iload hx hb d_Encoding_characterAt_33 (lv_at hl 0 rfl) ?_
      refine lv_iload hx hb d_Encoding_characterAt_35 (lv_at hl 2 rfl) ?_
      refine zi_icmp_ge hx hb d_Encoding_characterAt_37 rfl (by omega) (by omega) (fun h => absurd h (by omega)) (fun h37 => ?_)
      refine lv_iload hx hb d_Encoding_characterAt_40 (lv_at hl 1 rfl) ?_
      refine zi_bipush hx hb d_Encoding_characterAt_42 (by decide) ?_
      refine zi_ishl hx hb d_Encoding_characterAt_44 (iI_shl6 _) ?_
      refine lv_aload_n hx hb d_Encoding_characterAt_45 rfl (lv_at hl 5 rfl) ?_
      refine lv_iload_n hx hb d_Encoding_characterAt_46 rfl (lv_at hl 6 rfl) ?_
      refine lv_iload hx hb d_Encoding_characterAt_47 (lv_at hl 0 rfl) ?_
      refine zi_iadd hx hb d_Encoding_characterAt_49 ?_
      refine zcR (va_runV (As := [.int (iI (((k : Nat) : Int) + 3))]) (rest := [.int (iI ((((((sp_b b k : Nat) : Int) % 8) * 64 + (((sp_b b (k + 1) : Nat) : Int) % 64)) * 64 + (((sp_b b (k + 2) : Nat) : Int) % 64)) * 64))]) S (c_Row_at l E r b (((k : Nat) : Int) + 3) (by omega)) ⟨zcwB (n := 1) S zw_437 zw_2 zw_434 (by decide +kernel) rfl rfl ⟨Nat.le_of_ble_eq_true rfl, Nat.le_of_ble_eq_true rfl⟩, S.2.2.2.2 _ zw_435, S.2.2.2.2 _ zw_436⟩ (zPreVrow hE hrow hrow) rfl rfl hl.1 rfl (lv_room (Nat.le_of_ble_eq_true rfl)) d_Encoding_characterAt_50 ⟨Nat.zero_le _, Nat.zero_le _⟩) ?_
      rw [sp_at_in (n := k + 3) (by omega) (by omega)]
      have hb50 := sp_b_lt (zrow.lt hrow) (k + 3)
      refine zi_bipush hx hb d_Encoding_characterAt_53 (by decide) ?_
      refine zi_iand hx hb d_Encoding_characterAt_55 (iI_mask 6 63 64 (by omega) (by decide) (by decide)) ?_
      refine zi_ior hx hb d_Encoding_characterAt_56 (iI_or6 (by omega) (by omega) (by omega)) ?_
      refine lv_istore (lv' := [(5, .int (iI ((((((sp_b b k : Nat) : Int) % 8) * 64 + (((sp_b b (k + 1) : Nat) : Int) % 64)) * 64 + (((sp_b b (k + 2) : Nat) : Int) % 64)) * 64 + (((sp_b b (k + 3) : Nat) : Int) % 64)))), (6, .int (iI 3)), (4, .int (iI 4)), (3, .int (iI ((sp_b b k : Nat) : Int))), (0, .ref h), (1, .ref r), (2, .int (iI ((k : Nat) : Int)))]) hx hb d_Encoding_characterAt_57 hl (by decide) rfl (fun ls hl => ?_)
      refine lv_iinc (k := 1) (v := (iI 4)) (lv' := [(6, .int (iI 4)), (5, .int (iI ((((((sp_b b k : Nat) : Int) % 8) * 64 + (((sp_b b (k + 1) : Nat) : Int) % 64)) * 64 + (((sp_b b (k + 2) : Nat) : Int) % 64)) * 64 + (((sp_b b (k + 3) : Nat) : Int) % 64)))), (4, .int (iI 4)), (3, .int (iI ((sp_b b k : Nat) : Int))), (0, .ref h), (1, .ref r), (2, .int (iI ((k : Nat) : Int)))]) hx hb d_Encoding_characterAt_59 hl rfl (by decide) (by decide) rfl (fun ls hl => ?_)
      refine lv_goto hx hb d_Encoding_characterAt_62 rfl ?_
      refine lv_iload hx hb d_Encoding_characterAt_33 (lv_at hl 0 rfl) ?_
      refine lv_iload hx hb d_Encoding_characterAt_35 (lv_at hl 2 rfl) ?_
      refine zi_icmp_ge hx hb d_Encoding_characterAt_37 rfl (by omega) (by omega) (fun h37 => ?_) (fun h => absurd h (by omega))
      refine lv_iload hx hb d_Encoding_characterAt_65 (lv_at hl 1 rfl) ?_
      exact zretI S hr hlk d_Encoding_characterAt_67 (congrArg iI (by unfold sp_chr; simp only; first | (rw [e3]; simp; done) | (rw [if_neg (by omega), if_neg (by omega), if_neg (by omega)])))
  · refine lv_iload_n hx hb d_Encoding_characterAt_19 rfl (lv_at hl 1 rfl) ?_
    exact zretI S hr hlk d_Encoding_characterAt_20 (congrArg iI (by unfold sp_chr; simp only; first | (rw [e3]; simp; done) | (rw [if_neg (by omega), if_neg (by omega), if_neg (by omega)])))

set_option maxRecDepth 100000 in
set_option maxHeartbeats 4000000 in
theorem c_Encoding_isGood (l : Launch) (E : zP) (h r : Nat) (utf : Bool) (b : List Nat) (k : Nat) (hk : k < b.length) : Met l y_Encoding_isGood (.code y_Encoding_isGood b_Encoding_isGood 5 ( some FieldType.boolean ) :: zw) { frames := 2, cells := 0, slots := 0, locals := 47 } (zPc E [.ref h, .ref r, .int (iI ((k : Nat) : Int))] (fun H => zO E 2 h [.int (iI (bN utf))] H ∧ zrow E r b H)) (zR (some (.int (iI (bN (sp_good utf b k)))))) 0 0 (fun _ => False) := by
  refine zMet (by decide) (Nat.le_of_ble_eq_true rfl) ?_
  intro p e s m below meth c ls S hr hlk hnm hE ⟨hp, hrow⟩ hl
  have hx := S.1
  have hb := S.2.1
  have hl : lv_has ls 5 [(0, .ref h), (1, .ref r), (2, .int (iI ((k : Nat) : Int)))] := hl
  have hbl := zrow.len hrow
  refine lv_aload_n hx hb d_Encoding_isGood_0 rfl (lv_at hl 0 rfl) ?_
  refine lv_aload_n hx hb d_Encoding_isGood_1 rfl (lv_at hl 1 rfl) ?_
  refine lv_iload_n hx hb d_Encoding_isGood_2 rfl (lv_at hl 2 rfl) ?_
  refine zcR (va_runV (As := [.int (iI ((k : Nat) : Int))]) (rest := [.ref h]) S (c_Row_at l E r b ((k : Nat) : Int) (by omega)) ⟨zcwB (n := 1) S zw_437 zw_2 zw_434 (by decide +kernel) rfl rfl ⟨Nat.le_of_ble_eq_true rfl, Nat.le_of_ble_eq_true rfl⟩, S.2.2.2.2 _ zw_435, S.2.2.2.2 _ zw_436⟩ (zPreVrow hE hrow hrow) rfl rfl hl.1 rfl (lv_room (Nat.le_of_ble_eq_true rfl)) d_Encoding_isGood_3 ⟨Nat.zero_le _, Nat.zero_le _⟩) ?_
  rw [sp_at_in (n := k) (by omega) (by omega)]
  have hb3 := sp_b_lt (zrow.lt hrow) (k)
  refine zcR (va_runV (As := [.int (iI ((sp_b b k : Nat) : Int))]) (rest := []) S (c_Encoding_lengthBehind l E h utf (sp_b b k) (by omega)) ⟨zcwB (n := 1) S zw_441 zw_7 zw_438 (by decide +kernel) rfl rfl ⟨Nat.le_of_ble_eq_true rfl, Nat.le_of_ble_eq_true rfl⟩, S.2.2.2.2 _ zw_439, S.2.2.2.2 _ zw_440⟩ (zPreV hE hp rfl hp) rfl rfl hl.1 rfl (lv_room (Nat.le_of_ble_eq_true rfl)) d_Encoding_isGood_6 ⟨Nat.zero_le _, Nat.zero_le _⟩) ?_
  have hb6 := sp_lead_le utf (sp_b b k)
  refine lv_istore_n (lv' := [(3, .int (iI ((sp_lead utf (sp_b b k) : Nat) : Int))), (0, .ref h), (1, .ref r), (2, .int (iI ((k : Nat) : Int)))]) hx hb d_Encoding_isGood_9 rfl hl (by decide) rfl (fun ls hl => ?_)
  refine lv_iload_n hx hb d_Encoding_isGood_10 rfl (lv_at hl 0 rfl) ?_
  refine zi_if_ne hx hb d_Encoding_isGood_11 rfl (by omega) (fun h11 => ?_) (fun h11 => ?_)
  · have hle := sp_lead_le utf (sp_b b k)
    have h3 : sp_lead utf (sp_b b k) = 1 ∨ sp_lead utf (sp_b b k) = 2 ∨ sp_lead utf (sp_b b k) = 3 ∨ sp_lead utf (sp_b b k) = 4 := by omega
    rcases h3 with e3 | e3 | e3 | e3
    · rw [e3] at hl
      have hl : lv_has ls 5 [(3, .int (iI 1)), (0, .ref h), (1, .ref r), (2, .int (iI ((k : Nat) : Int)))] := hl
      refine zi_iconst hx hb d_Encoding_isGood_16 ?_
      refine lv_istore (lv' := [(4, .int (iI 1)), (3, .int (iI 1)), (0, .ref h), (1, .ref r), (2, .int (iI ((k : Nat) : Int)))]) hx hb d_Encoding_isGood_17 hl (by decide) rfl (fun ls hl => ?_)
      refine lv_iload hx hb d_Encoding_isGood_19 (lv_at hl 0 rfl) ?_
      refine lv_iload_n hx hb d_Encoding_isGood_21 rfl (lv_at hl 1 rfl) ?_
      refine zi_icmp_ge hx hb d_Encoding_isGood_22 rfl (by omega) (by omega) (fun h22 => ?_) (fun h => absurd h (by omega))
      refine lv_aload_n hx hb d_Encoding_isGood_51 rfl (lv_at hl 2 rfl) ?_
      refine lv_aload_n hx hb d_Encoding_isGood_52 rfl (lv_at hl 3 rfl) ?_
      refine lv_iload_n hx hb d_Encoding_isGood_53 rfl (lv_at hl 4 rfl) ?_
      refine zcR (va_runV (As := [.ref r, .int (iI ((k : Nat) : Int))]) (rest := []) S (c_Encoding_characterAt l E h r utf b k (by omega) (by omega)) ⟨zcwB (n := 2) S zw_445 zw_7 zw_442 (by decide +kernel) rfl rfl ⟨Nat.le_of_ble_eq_true rfl, Nat.le_of_ble_eq_true rfl⟩, S.2.2.2.2 _ zw_443, S.2.2.2.2 _ zw_444⟩ (zPreV hE hp rfl ⟨hp, hrow⟩) rfl rfl hl.1 rfl (lv_room (Nat.le_of_ble_eq_true rfl)) d_Encoding_isGood_54 ⟨Nat.zero_le _, Nat.zero_le _⟩) ?_
      have hch := sp_chr_lt utf (zrow.lt hrow) k
      refine lv_istore (lv' := [(4, .int (iI ((sp_chr utf b k : Nat) : Int))), (3, .int (iI 1)), (0, .ref h), (1, .ref r), (2, .int (iI ((k : Nat) : Int)))]) hx hb d_Encoding_isGood_57 hl (by decide) rfl (fun ls hl => ?_)
      refine lv_aload_n hx hb d_Encoding_isGood_59 rfl (lv_at hl 2 rfl) ?_
      refine lv_iload hx hb d_Encoding_isGood_60 (lv_at hl 0 rfl) ?_
      refine zl_i2l hx hb d_Encoding_isGood_62 (by omega) ?_
      refine zcR (va_runV (As := [.long (jL ((sp_chr utf b k : Nat) : Int))]) (rest := []) S (c_Encoding_exists l E h utf (sp_chr utf b k) (by omega)) ⟨zcwB (n := 1) S zw_449 zw_7 zw_446 (by decide +kernel) rfl rfl ⟨Nat.le_of_ble_eq_true rfl, Nat.le_of_ble_eq_true rfl⟩, S.2.2.2.2 _ zw_447, S.2.2.2.2 _ zw_448⟩ (zPreV hE hp rfl hp) rfl rfl hl.1 rfl (lv_room (Nat.le_of_ble_eq_true rfl)) d_Encoding_isGood_63 ⟨Nat.zero_le _, Nat.zero_le _⟩) ?_
      refine zb_ifeq hx hb d_Encoding_isGood_66 rfl (fun h66 => ?_) (fun h66 => ?_)
      · refine zi_iconst hx hb d_Encoding_isGood_83 ?_
        exact zretZ (b := false) S hr hlk d_Encoding_isGood_84 (by refine Eq.symm ?_; unfold sp_good; simp [*] <;> omega)
      · refine lv_aload_n hx hb d_Encoding_isGood_69 rfl (lv_at hl 2 rfl) ?_
        refine lv_iload hx hb d_Encoding_isGood_70 (lv_at hl 0 rfl) ?_
        refine zcR (va_runV (As := [.int (iI ((sp_chr utf b k : Nat) : Int))]) (rest := []) S (c_Encoding_lengthOf l E h utf (sp_chr utf b k) (by omega)) ⟨zcwB (n := 1) S zw_457 zw_7 zw_454 (by decide +kernel) rfl rfl ⟨Nat.le_of_ble_eq_true rfl, Nat.le_of_ble_eq_true rfl⟩, S.2.2.2.2 _ zw_455, S.2.2.2.2 _ zw_456⟩ (zPreV hE hp rfl hp) rfl rfl hl.1 rfl (lv_room (Nat.le_of_ble_eq_true rfl)) d_Encoding_isGood_72 ⟨Nat.zero_le _, Nat.zero_le _⟩) ?_
        have hb72 := sp_len_le utf (sp_chr utf b k)
        refine lv_iload_n hx hb d_Encoding_isGood_75 rfl (lv_at hl 1 rfl) ?_
        refine zi_icmp_ne hx hb d_Encoding_isGood_76 rfl (by omega) (by omega) (fun h76 => ?_) (fun h76 => ?_)
        · refine zi_iconst hx hb d_Encoding_isGood_83 ?_
          exact zretZ (b := false) S hr hlk d_Encoding_isGood_84 (by refine Eq.symm ?_; unfold sp_good; simp [*] <;> omega)
        · refine zi_iconst hx hb d_Encoding_isGood_79 ?_
          refine lv_goto hx hb d_Encoding_isGood_80 rfl ?_
          exact zretZ (b := true) S hr hlk d_Encoding_isGood_84 (by refine Eq.symm ?_; unfold sp_good; simp [*] <;> omega)
    · rw [e3] at hl
      have hl : lv_has ls 5 [(3, .int (iI 2)), (0, .ref h), (1, .ref r), (2, .int (iI ((k : Nat) : Int)))] := hl
      refine zi_iconst hx hb d_Encoding_isGood_16 ?_
      refine lv_istore (lv' := [(4, .int (iI 1)), (3, .int (iI 2)), (0, .ref h), (1, .ref r), (2, .int (iI ((k : Nat) : Int)))]) hx hb d_Encoding_isGood_17 hl (by decide) rfl (fun ls hl => ?_)
      refine lv_iload hx hb d_Encoding_isGood_19 (lv_at hl 0 rfl) ?_
      refine lv_iload_n hx hb d_Encoding_isGood_21 rfl (lv_at hl 1 rfl) ?_
      refine zi_icmp_ge hx hb d_Encoding_isGood_22 rfl (by omega) (by omega) (fun h => absurd h (by omega)) (fun h22 => ?_)
      refine lv_aload_n hx hb d_Encoding_isGood_25 rfl (lv_at hl 3 rfl) ?_
      refine lv_iload_n hx hb d_Encoding_isGood_26 rfl (lv_at hl 4 rfl) ?_
      refine lv_iload hx hb d_Encoding_isGood_27 (lv_at hl 0 rfl) ?_
      refine zi_iadd hx hb d_Encoding_isGood_29 ?_
      refine zcR (va_runV (As := [.int (iI (((k : Nat) : Int) + 1))]) (rest := []) S (c_Row_at l E r b (((k : Nat) : Int) + 1) (by omega)) ⟨zcwB (n := 1) S zw_437 zw_2 zw_434 (by decide +kernel) rfl rfl ⟨Nat.le_of_ble_eq_true rfl, Nat.le_of_ble_eq_true rfl⟩, S.2.2.2.2 _ zw_435, S.2.2.2.2 _ zw_436⟩ (zPreVrow hE hrow hrow) rfl rfl hl.1 rfl (lv_room (Nat.le_of_ble_eq_true rfl)) d_Encoding_isGood_30 ⟨Nat.zero_le _, Nat.zero_le _⟩) ?_
      have hb30 := sp_at_r b (((k : Nat) : Int) + 1) (zrow.lt hrow)
      refine zi_sipush hx hb d_Encoding_isGood_33 (by decide) ?_
      refine zi_iand hx hb d_Encoding_isGood_36 (iI_c0 (by omega) (by omega)) ?_
      refine zi_sipush hx hb d_Encoding_isGood_37 (by decide) ?_
      refine zi_icmp_eq hx hb d_Encoding_isGood_40 rfl (by omega) (by omega) (fun hc => ?_) (fun hc => ?_)
      · have q1 : sp_con b (k + 1) = true := by rw [sp_con_at, show ((k + 1 : Nat) : Int) = (k : Int) + 1 by omega]; exact decide_eq_true (by omega)
        have hq1 : k + 1 < b.length := by unfold sp_con at q1; simp at q1; omega
        refine lv_iinc (k := 0) (v := (iI 2)) (lv' := [(4, .int (iI 2)), (3, .int (iI 2)), (0, .ref h), (1, .ref r), (2, .int (iI ((k : Nat) : Int)))]) hx hb d_Encoding_isGood_45 hl rfl (by decide) (by decide) rfl (fun ls hl => ?_)
        refine lv_goto hx hb d_Encoding_isGood_48 rfl ?_
        refine lv_iload hx hb d_Encoding_isGood_19 (lv_at hl 0 rfl) ?_
        refine lv_iload_n hx hb d_Encoding_isGood_21 rfl (lv_at hl 1 rfl) ?_
        refine zi_icmp_ge hx hb d_Encoding_isGood_22 rfl (by omega) (by omega) (fun h22 => ?_) (fun h => absurd h (by omega))
        refine lv_aload_n hx hb d_Encoding_isGood_51 rfl (lv_at hl 2 rfl) ?_
        refine lv_aload_n hx hb d_Encoding_isGood_52 rfl (lv_at hl 3 rfl) ?_
        refine lv_iload_n hx hb d_Encoding_isGood_53 rfl (lv_at hl 4 rfl) ?_
        refine zcR (va_runV (As := [.ref r, .int (iI ((k : Nat) : Int))]) (rest := []) S (c_Encoding_characterAt l E h r utf b k (by omega) (by omega)) ⟨zcwB (n := 2) S zw_445 zw_7 zw_442 (by decide +kernel) rfl rfl ⟨Nat.le_of_ble_eq_true rfl, Nat.le_of_ble_eq_true rfl⟩, S.2.2.2.2 _ zw_443, S.2.2.2.2 _ zw_444⟩ (zPreV hE hp rfl ⟨hp, hrow⟩) rfl rfl hl.1 rfl (lv_room (Nat.le_of_ble_eq_true rfl)) d_Encoding_isGood_54 ⟨Nat.zero_le _, Nat.zero_le _⟩) ?_
        have hch := sp_chr_lt utf (zrow.lt hrow) k
        refine lv_istore (lv' := [(4, .int (iI ((sp_chr utf b k : Nat) : Int))), (3, .int (iI 2)), (0, .ref h), (1, .ref r), (2, .int (iI ((k : Nat) : Int)))]) hx hb d_Encoding_isGood_57 hl (by decide) rfl (fun ls hl => ?_)
        refine lv_aload_n hx hb d_Encoding_isGood_59 rfl (lv_at hl 2 rfl) ?_
        refine lv_iload hx hb d_Encoding_isGood_60 (lv_at hl 0 rfl) ?_
        refine zl_i2l hx hb d_Encoding_isGood_62 (by omega) ?_
        refine zcR (va_runV (As := [.long (jL ((sp_chr utf b k : Nat) : Int))]) (rest := []) S (c_Encoding_exists l E h utf (sp_chr utf b k) (by omega)) ⟨zcwB (n := 1) S zw_449 zw_7 zw_446 (by decide +kernel) rfl rfl ⟨Nat.le_of_ble_eq_true rfl, Nat.le_of_ble_eq_true rfl⟩, S.2.2.2.2 _ zw_447, S.2.2.2.2 _ zw_448⟩ (zPreV hE hp rfl hp) rfl rfl hl.1 rfl (lv_room (Nat.le_of_ble_eq_true rfl)) d_Encoding_isGood_63 ⟨Nat.zero_le _, Nat.zero_le _⟩) ?_
        refine zb_ifeq hx hb d_Encoding_isGood_66 rfl (fun h66 => ?_) (fun h66 => ?_)
        · refine zi_iconst hx hb d_Encoding_isGood_83 ?_
          exact zretZ (b := false) S hr hlk d_Encoding_isGood_84 (by refine Eq.symm ?_; unfold sp_good; simp [*] <;> omega)
        · refine lv_aload_n hx hb d_Encoding_isGood_69 rfl (lv_at hl 2 rfl) ?_
          refine lv_iload hx hb d_Encoding_isGood_70 (lv_at hl 0 rfl) ?_
          refine zcR (va_runV (As := [.int (iI ((sp_chr utf b k : Nat) : Int))]) (rest := []) S (c_Encoding_lengthOf l E h utf (sp_chr utf b k) (by omega)) ⟨zcwB (n := 1) S zw_457 zw_7 zw_454 (by decide +kernel) rfl rfl ⟨Nat.le_of_ble_eq_true rfl, Nat.le_of_ble_eq_true rfl⟩, S.2.2.2.2 _ zw_455, S.2.2.2.2 _ zw_456⟩ (zPreV hE hp rfl hp) rfl rfl hl.1 rfl (lv_room (Nat.le_of_ble_eq_true rfl)) d_Encoding_isGood_72 ⟨Nat.zero_le _, Nat.zero_le _⟩) ?_
          have hb72 := sp_len_le utf (sp_chr utf b k)
          refine lv_iload_n hx hb d_Encoding_isGood_75 rfl (lv_at hl 1 rfl) ?_
          refine zi_icmp_ne hx hb d_Encoding_isGood_76 rfl (by omega) (by omega) (fun h76 => ?_) (fun h76 => ?_)
          · refine zi_iconst hx hb d_Encoding_isGood_83 ?_
            exact zretZ (b := false) S hr hlk d_Encoding_isGood_84 (by refine Eq.symm ?_; unfold sp_good; simp [*] <;> omega)
          · refine zi_iconst hx hb d_Encoding_isGood_79 ?_
            refine lv_goto hx hb d_Encoding_isGood_80 rfl ?_
            exact zretZ (b := true) S hr hlk d_Encoding_isGood_84 (by refine Eq.symm ?_; unfold sp_good; simp [*] <;> omega)
      · have q1 : sp_con b (k + 1) = false := by rw [sp_con_at, show ((k + 1 : Nat) : Int) = (k : Int) + 1 by omega]; exact decide_eq_false (by omega)
        refine zi_iconst hx hb d_Encoding_isGood_43 ?_
        exact zretZ (b := false) S hr hlk d_Encoding_isGood_44 (by refine Eq.symm ?_; unfold sp_good; simp [*] <;> omega)
    · rw [e3] at hl
      have hl : lv_has ls 5 [(3, .int (iI 3)), (0, .ref h), (1, .ref r), (2, .int (iI ((k : Nat) : Int)))] := hl
      refine zi_iconst hx hb d_Encoding_isGood_16 ?_
      refine lv_istore (lv' := [(4, .int (iI 1)), (3, .int (iI 3)), (0, .ref h), (1, .ref r), (2, .int (iI ((k : Nat) : Int)))]) hx hb d_Encoding_isGood_17 hl (by decide) rfl (fun ls hl => ?_)
      refine lv_iload hx hb d_Encoding_isGood_19 (lv_at hl 0 rfl) ?_
      refine lv_iload_n hx hb d_Encoding_isGood_21 rfl (lv_at hl 1 rfl) ?_
      refine zi_icmp_ge hx hb d_Encoding_isGood_22 rfl (by omega) (by omega) (fun h => absurd h (by omega)) (fun h22 => ?_)
      refine lv_aload_n hx hb d_Encoding_isGood_25 rfl (lv_at hl 3 rfl) ?_
      refine lv_iload_n hx hb d_Encoding_isGood_26 rfl (lv_at hl 4 rfl) ?_
      refine lv_iload hx hb d_Encoding_isGood_27 (lv_at hl 0 rfl) ?_
      refine zi_iadd hx hb d_Encoding_isGood_29 ?_
      refine zcR (va_runV (As := [.int (iI (((k : Nat) : Int) + 1))]) (rest := []) S (c_Row_at l E r b (((k : Nat) : Int) + 1) (by omega)) ⟨zcwB (n := 1) S zw_437 zw_2 zw_434 (by decide +kernel) rfl rfl ⟨Nat.le_of_ble_eq_true rfl, Nat.le_of_ble_eq_true rfl⟩, S.2.2.2.2 _ zw_435, S.2.2.2.2 _ zw_436⟩ (zPreVrow hE hrow hrow) rfl rfl hl.1 rfl (lv_room (Nat.le_of_ble_eq_true rfl)) d_Encoding_isGood_30 ⟨Nat.zero_le _, Nat.zero_le _⟩) ?_
      have hb30 := sp_at_r b (((k : Nat) : Int) + 1) (zrow.lt hrow)
      refine zi_sipush hx hb d_Encoding_isGood_33 (by decide) ?_
      refine zi_iand hx hb d_Encoding_isGood_36 (iI_c0 (by omega) (by omega)) ?_
      refine zi_sipush hx hb d_Encoding_isGood_37 (by decide) ?_
      refine zi_icmp_eq hx hb d_Encoding_isGood_40 rfl (by omega) (by omega) (fun hc => ?_) (fun hc => ?_)
      · have q1 : sp_con b (k + 1) = true := by rw [sp_con_at, show ((k + 1 : Nat) : Int) = (k : Int) + 1 by omega]; exact decide_eq_true (by omega)
        have hq1 : k + 1 < b.length := by unfold sp_con at q1; simp at q1; omega
        refine lv_iinc (k := 0) (v := (iI 2)) (lv' := [(4, .int (iI 2)), (3, .int (iI 3)), (0, .ref h), (1, .ref r), (2, .int (iI ((k : Nat) : Int)))]) hx hb d_Encoding_isGood_45 hl rfl (by decide) (by decide) rfl (fun ls hl => ?_)
        refine lv_goto hx hb d_Encoding_isGood_48 rfl ?_
        refine lv_iload hx hb d_Encoding_isGood_19 (lv_at hl 0 rfl) ?_
        refine lv_iload_n hx hb d_Encoding_isGood_21 rfl (lv_at hl 1 rfl) ?_
        refine zi_icmp_ge hx hb d_Encoding_isGood_22 rfl (by omega) (by omega) (fun h => absurd h (by omega)) (fun h22 => ?_)
        refine lv_aload_n hx hb d_Encoding_isGood_25 rfl (lv_at hl 3 rfl) ?_
        refine lv_iload_n hx hb d_Encoding_isGood_26 rfl (lv_at hl 4 rfl) ?_
        refine lv_iload hx hb d_Encoding_isGood_27 (lv_at hl 0 rfl) ?_
        refine zi_iadd hx hb d_Encoding_isGood_29 ?_
        refine zcR (va_runV (As := [.int (iI (((k : Nat) : Int) + 2))]) (rest := []) S (c_Row_at l E r b (((k : Nat) : Int) + 2) (by omega)) ⟨zcwB (n := 1) S zw_437 zw_2 zw_434 (by decide +kernel) rfl rfl ⟨Nat.le_of_ble_eq_true rfl, Nat.le_of_ble_eq_true rfl⟩, S.2.2.2.2 _ zw_435, S.2.2.2.2 _ zw_436⟩ (zPreVrow hE hrow hrow) rfl rfl hl.1 rfl (lv_room (Nat.le_of_ble_eq_true rfl)) d_Encoding_isGood_30 ⟨Nat.zero_le _, Nat.zero_le _⟩) ?_
        have hb30 := sp_at_r b (((k : Nat) : Int) + 2) (zrow.lt hrow)
        refine zi_sipush hx hb d_Encoding_isGood_33 (by decide) ?_
        refine zi_iand hx hb d_Encoding_isGood_36 (iI_c0 (by omega) (by omega)) ?_
        refine zi_sipush hx hb d_Encoding_isGood_37 (by decide) ?_
        refine zi_icmp_eq hx hb d_Encoding_isGood_40 rfl (by omega) (by omega) (fun hc => ?_) (fun hc => ?_)
        · have q2 : sp_con b (k + 2) = true := by rw [sp_con_at, show ((k + 2 : Nat) : Int) = (k : Int) + 2 by omega]; exact decide_eq_true (by omega)
          have hq2 : k + 2 < b.length := by unfold sp_con at q2; simp at q2; omega
          refine lv_iinc (k := 0) (v := (iI 3)) (lv' := [(4, .int (iI 3)), (3, .int (iI 3)), (0, .ref h), (1, .ref r), (2, .int (iI ((k : Nat) : Int)))]) hx hb d_Encoding_isGood_45 hl rfl (by decide) (by decide) rfl (fun ls hl => ?_)
          refine lv_goto hx hb d_Encoding_isGood_48 rfl ?_
          refine lv_iload hx hb d_Encoding_isGood_19 (lv_at hl 0 rfl) ?_
          refine lv_iload_n hx hb d_Encoding_isGood_21 rfl (lv_at hl 1 rfl) ?_
          refine zi_icmp_ge hx hb d_Encoding_isGood_22 rfl (by omega) (by omega) (fun h22 => ?_) (fun h => absurd h (by omega))
          refine lv_aload_n hx hb d_Encoding_isGood_51 rfl (lv_at hl 2 rfl) ?_
          refine lv_aload_n hx hb d_Encoding_isGood_52 rfl (lv_at hl 3 rfl) ?_
          refine lv_iload_n hx hb d_Encoding_isGood_53 rfl (lv_at hl 4 rfl) ?_
          refine zcR (va_runV (As := [.ref r, .int (iI ((k : Nat) : Int))]) (rest := []) S (c_Encoding_characterAt l E h r utf b k (by omega) (by omega)) ⟨zcwB (n := 2) S zw_445 zw_7 zw_442 (by decide +kernel) rfl rfl ⟨Nat.le_of_ble_eq_true rfl, Nat.le_of_ble_eq_true rfl⟩, S.2.2.2.2 _ zw_443, S.2.2.2.2 _ zw_444⟩ (zPreV hE hp rfl ⟨hp, hrow⟩) rfl rfl hl.1 rfl (lv_room (Nat.le_of_ble_eq_true rfl)) d_Encoding_isGood_54 ⟨Nat.zero_le _, Nat.zero_le _⟩) ?_
          have hch := sp_chr_lt utf (zrow.lt hrow) k
          refine lv_istore (lv' := [(4, .int (iI ((sp_chr utf b k : Nat) : Int))), (3, .int (iI 3)), (0, .ref h), (1, .ref r), (2, .int (iI ((k : Nat) : Int)))]) hx hb d_Encoding_isGood_57 hl (by decide) rfl (fun ls hl => ?_)
          refine lv_aload_n hx hb d_Encoding_isGood_59 rfl (lv_at hl 2 rfl) ?_
          refine lv_iload hx hb d_Encoding_isGood_60 (lv_at hl 0 rfl) ?_
          refine zl_i2l hx hb d_Encoding_isGood_62 (by omega) ?_
          refine zcR (va_runV (As := [.long (jL ((sp_chr utf b k : Nat) : Int))]) (rest := []) S (c_Encoding_exists l E h utf (sp_chr utf b k) (by omega)) ⟨zcwB (n := 1) S zw_449 zw_7 zw_446 (by decide +kernel) rfl rfl ⟨Nat.le_of_ble_eq_true rfl, Nat.le_of_ble_eq_true rfl⟩, S.2.2.2.2 _ zw_447, S.2.2.2.2 _ zw_448⟩ (zPreV hE hp rfl hp) rfl rfl hl.1 rfl (lv_room (Nat.le_of_ble_eq_true rfl)) d_Encoding_isGood_63 ⟨Nat.zero_le _, Nat.zero_le _⟩) ?_
          refine zb_ifeq hx hb d_Encoding_isGood_66 rfl (fun h66 => ?_) (fun h66 => ?_)
          · refine zi_iconst hx hb d_Encoding_isGood_83 ?_
            exact zretZ (b := false) S hr hlk d_Encoding_isGood_84 (by refine Eq.symm ?_; unfold sp_good; simp [*] <;> omega)
          · refine lv_aload_n hx hb d_Encoding_isGood_69 rfl (lv_at hl 2 rfl) ?_
            refine lv_iload hx hb d_Encoding_isGood_70 (lv_at hl 0 rfl) ?_
            refine zcR (va_runV (As := [.int (iI ((sp_chr utf b k : Nat) : Int))]) (rest := []) S (c_Encoding_lengthOf l E h utf (sp_chr utf b k) (by omega)) ⟨zcwB (n := 1) S zw_457 zw_7 zw_454 (by decide +kernel) rfl rfl ⟨Nat.le_of_ble_eq_true rfl, Nat.le_of_ble_eq_true rfl⟩, S.2.2.2.2 _ zw_455, S.2.2.2.2 _ zw_456⟩ (zPreV hE hp rfl hp) rfl rfl hl.1 rfl (lv_room (Nat.le_of_ble_eq_true rfl)) d_Encoding_isGood_72 ⟨Nat.zero_le _, Nat.zero_le _⟩) ?_
            have hb72 := sp_len_le utf (sp_chr utf b k)
            refine lv_iload_n hx hb d_Encoding_isGood_75 rfl (lv_at hl 1 rfl) ?_
            refine zi_icmp_ne hx hb d_Encoding_isGood_76 rfl (by omega) (by omega) (fun h76 => ?_) (fun h76 => ?_)
            · refine zi_iconst hx hb d_Encoding_isGood_83 ?_
              exact zretZ (b := false) S hr hlk d_Encoding_isGood_84 (by refine Eq.symm ?_; unfold sp_good; simp [*] <;> omega)
            · refine zi_iconst hx hb d_Encoding_isGood_79 ?_
              refine lv_goto hx hb d_Encoding_isGood_80 rfl ?_
              exact zretZ (b := true) S hr hlk d_Encoding_isGood_84 (by refine Eq.symm ?_; unfold sp_good; simp [*] <;> omega)
        · have q2 : sp_con b (k + 2) = false := by rw [sp_con_at, show ((k + 2 : Nat) : Int) = (k : Int) + 2 by omega]; exact decide_eq_false (by omega)
          refine zi_iconst hx hb d_Encoding_isGood_43 ?_
          exact zretZ (b := false) S hr hlk d_Encoding_isGood_44 (by refine Eq.symm ?_; unfold sp_good; simp [*] <;> omega)
      · have q1 : sp_con b (k + 1) = false := by rw [sp_con_at, show ((k + 1 : Nat) : Int) = (k : Int) + 1 by omega]; exact decide_eq_false (by omega)
        refine zi_iconst hx hb d_Encoding_isGood_43 ?_
        exact zretZ (b := false) S hr hlk d_Encoding_isGood_44 (by refine Eq.symm ?_; unfold sp_good; simp [*] <;> omega)
    · rw [e3] at hl
      have hl : lv_has ls 5 [(3, .int (iI 4)), (0, .ref h), (1, .ref r), (2, .int (iI ((k : Nat) : Int)))] := hl
      refine zi_iconst hx hb d_Encoding_isGood_16 ?_
      refine lv_istore (lv' := [(4, .int (iI 1)), (3, .int (iI 4)), (0, .ref h), (1, .ref r), (2, .int (iI ((k : Nat) : Int)))]) hx hb d_Encoding_isGood_17 hl (by decide) rfl (fun ls hl => ?_)
      refine lv_iload hx hb d_Encoding_isGood_19 (lv_at hl 0 rfl) ?_
      refine lv_iload_n hx hb d_Encoding_isGood_21 rfl (lv_at hl 1 rfl) ?_
      refine zi_icmp_ge hx hb d_Encoding_isGood_22 rfl (by omega) (by omega) (fun h => absurd h (by omega)) (fun h22 => ?_)
      refine lv_aload_n hx hb d_Encoding_isGood_25 rfl (lv_at hl 3 rfl) ?_
      refine lv_iload_n hx hb d_Encoding_isGood_26 rfl (lv_at hl 4 rfl) ?_
      refine lv_iload hx hb d_Encoding_isGood_27 (lv_at hl 0 rfl) ?_
      refine zi_iadd hx hb d_Encoding_isGood_29 ?_
      refine zcR (va_runV (As := [.int (iI (((k : Nat) : Int) + 1))]) (rest := []) S (c_Row_at l E r b (((k : Nat) : Int) + 1) (by omega)) ⟨zcwB (n := 1) S zw_437 zw_2 zw_434 (by decide +kernel) rfl rfl ⟨Nat.le_of_ble_eq_true rfl, Nat.le_of_ble_eq_true rfl⟩, S.2.2.2.2 _ zw_435, S.2.2.2.2 _ zw_436⟩ (zPreVrow hE hrow hrow) rfl rfl hl.1 rfl (lv_room (Nat.le_of_ble_eq_true rfl)) d_Encoding_isGood_30 ⟨Nat.zero_le _, Nat.zero_le _⟩) ?_
      have hb30 := sp_at_r b (((k : Nat) : Int) + 1) (zrow.lt hrow)
      refine zi_sipush hx hb d_Encoding_isGood_33 (by decide) ?_
      refine zi_iand hx hb d_Encoding_isGood_36 (iI_c0 (by omega) (by omega)) ?_
      refine zi_sipush hx hb d_Encoding_isGood_37 (by decide) ?_
      refine zi_icmp_eq hx hb d_Encoding_isGood_40 rfl (by omega) (by omega) (fun hc => ?_) (fun hc => ?_)
      · have q1 : sp_con b (k + 1) = true := by rw [sp_con_at, show ((k + 1 : Nat) : Int) = (k : Int) + 1 by omega]; exact decide_eq_true (by omega)
        have hq1 : k + 1 < b.length := by unfold sp_con at q1; simp at q1; omega
        refine lv_iinc (k := 0) (v := (iI 2)) (lv' := [(4, .int (iI 2)), (3, .int (iI 4)), (0, .ref h), (1, .ref r), (2, .int (iI ((k : Nat) : Int)))]) hx hb d_Encoding_isGood_45 hl rfl (by decide) (by decide) rfl (fun ls hl => ?_)
        refine lv_goto hx hb d_Encoding_isGood_48 rfl ?_
        refine lv_iload hx hb d_Encoding_isGood_19 (lv_at hl 0 rfl) ?_
        refine lv_iload_n hx hb d_Encoding_isGood_21 rfl (lv_at hl 1 rfl) ?_
        refine zi_icmp_ge hx hb d_Encoding_isGood_22 rfl (by omega) (by omega) (fun h => absurd h (by omega)) (fun h22 => ?_)
        refine lv_aload_n hx hb d_Encoding_isGood_25 rfl (lv_at hl 3 rfl) ?_
        refine lv_iload_n hx hb d_Encoding_isGood_26 rfl (lv_at hl 4 rfl) ?_
        refine lv_iload hx hb d_Encoding_isGood_27 (lv_at hl 0 rfl) ?_
        refine zi_iadd hx hb d_Encoding_isGood_29 ?_
        refine zcR (va_runV (As := [.int (iI (((k : Nat) : Int) + 2))]) (rest := []) S (c_Row_at l E r b (((k : Nat) : Int) + 2) (by omega)) ⟨zcwB (n := 1) S zw_437 zw_2 zw_434 (by decide +kernel) rfl rfl ⟨Nat.le_of_ble_eq_true rfl, Nat.le_of_ble_eq_true rfl⟩, S.2.2.2.2 _ zw_435, S.2.2.2.2 _ zw_436⟩ (zPreVrow hE hrow hrow) rfl rfl hl.1 rfl (lv_room (Nat.le_of_ble_eq_true rfl)) d_Encoding_isGood_30 ⟨Nat.zero_le _, Nat.zero_le _⟩) ?_
        have hb30 := sp_at_r b (((k : Nat) : Int) + 2) (zrow.lt hrow)
        refine zi_sipush hx hb d_Encoding_isGood_33 (by decide) ?_
        refine zi_iand hx hb d_Encoding_isGood_36 (iI_c0 (by omega) (by omega)) ?_
        refine zi_sipush hx hb d_Encoding_isGood_37 (by decide) ?_
        refine zi_icmp_eq hx hb d_Encoding_isGood_40 rfl (by omega) (by omega) (fun hc => ?_) (fun hc => ?_)
        · have q2 : sp_con b (k + 2) = true := by rw [sp_con_at, show ((k + 2 : Nat) : Int) = (k : Int) + 2 by omega]; exact decide_eq_true (by omega)
          have hq2 : k + 2 < b.length := by unfold sp_con at q2; simp at q2; omega
          refine lv_iinc (k := 0) (v := (iI 3)) (lv' := [(4, .int (iI 3)), (3, .int (iI 4)), (0, .ref h), (1, .ref r), (2, .int (iI ((k : Nat) : Int)))]) hx hb d_Encoding_isGood_45 hl rfl (by decide) (by decide) rfl (fun ls hl => ?_)
          refine lv_goto hx hb d_Encoding_isGood_48 rfl ?_
          refine lv_iload hx hb d_Encoding_isGood_19 (lv_at hl 0 rfl) ?_
          refine lv_iload_n hx hb d_Encoding_isGood_21 rfl (lv_at hl 1 rfl) ?_
          refine zi_icmp_ge hx hb d_Encoding_isGood_22 rfl (by omega) (by omega) (fun h => absurd h (by omega)) (fun h22 => ?_)
          refine lv_aload_n hx hb d_Encoding_isGood_25 rfl (lv_at hl 3 rfl) ?_
          refine lv_iload_n hx hb d_Encoding_isGood_26 rfl (lv_at hl 4 rfl) ?_
          refine lv_iload hx hb d_Encoding_isGood_27 (lv_at hl 0 rfl) ?_
          refine zi_iadd hx hb d_Encoding_isGood_29 ?_
          refine zcR (va_runV (As := [.int (iI (((k : Nat) : Int) + 3))]) (rest := []) S (c_Row_at l E r b (((k : Nat) : Int) + 3) (by omega)) ⟨zcwB (n := 1) S zw_437 zw_2 zw_434 (by decide +kernel) rfl rfl ⟨Nat.le_of_ble_eq_true rfl, Nat.le_of_ble_eq_true rfl⟩, S.2.2.2.2 _ zw_435, S.2.2.2.2 _ zw_436⟩ (zPreVrow hE hrow hrow) rfl rfl hl.1 rfl (lv_room (Nat.le_of_ble_eq_true rfl)) d_Encoding_isGood_30 ⟨Nat.zero_le _, Nat.zero_le _⟩) ?_
          have hb30 := sp_at_r b (((k : Nat) : Int) + 3) (zrow.lt hrow)
          refine zi_sipush hx hb d_Encoding_isGood_33 (by decide) ?_
          refine zi_iand hx hb d_Encoding_isGood_36 (iI_c0 (by omega) (by omega)) ?_
          refine zi_sipush hx hb d_Encoding_isGood_37 (by decide) ?_
          refine zi_icmp_eq hx hb d_Encoding_isGood_40 rfl (by omega) (by omega) (fun hc => ?_) (fun hc => ?_)
          · have q3 : sp_con b (k + 3) = true := by rw [sp_con_at, show ((k + 3 : Nat) : Int) = (k : Int) + 3 by omega]; exact decide_eq_true (by omega)
            have hq3 : k + 3 < b.length := by unfold sp_con at q3; simp at q3; omega
            refine lv_iinc (k := 0) (v := (iI 4)) (lv' := [(4, .int (iI 4)), (3, .int (iI 4)), (0, .ref h), (1, .ref r), (2, .int (iI ((k : Nat) : Int)))]) hx hb d_Encoding_isGood_45 hl rfl (by decide) (by decide) rfl (fun ls hl => ?_)
            refine lv_goto hx hb d_Encoding_isGood_48 rfl ?_
            refine lv_iload hx hb d_Encoding_isGood_19 (lv_at hl 0 rfl) ?_
            refine lv_iload_n hx hb d_Encoding_isGood_21 rfl (lv_at hl 1 rfl) ?_
            refine zi_icmp_ge hx hb d_Encoding_isGood_22 rfl (by omega) (by omega) (fun h22 => ?_) (fun h => absurd h (by omega))
            refine lv_aload_n hx hb d_Encoding_isGood_51 rfl (lv_at hl 2 rfl) ?_
            refine lv_aload_n hx hb d_Encoding_isGood_52 rfl (lv_at hl 3 rfl) ?_
            refine lv_iload_n hx hb d_Encoding_isGood_53 rfl (lv_at hl 4 rfl) ?_
            refine zcR (va_runV (As := [.ref r, .int (iI ((k : Nat) : Int))]) (rest := []) S (c_Encoding_characterAt l E h r utf b k (by omega) (by omega)) ⟨zcwB (n := 2) S zw_445 zw_7 zw_442 (by decide +kernel) rfl rfl ⟨Nat.le_of_ble_eq_true rfl, Nat.le_of_ble_eq_true rfl⟩, S.2.2.2.2 _ zw_443, S.2.2.2.2 _ zw_444⟩ (zPreV hE hp rfl ⟨hp, hrow⟩) rfl rfl hl.1 rfl (lv_room (Nat.le_of_ble_eq_true rfl)) d_Encoding_isGood_54 ⟨Nat.zero_le _, Nat.zero_le _⟩) ?_
            have hch := sp_chr_lt utf (zrow.lt hrow) k
            refine lv_istore (lv' := [(4, .int (iI ((sp_chr utf b k : Nat) : Int))), (3, .int (iI 4)), (0, .ref h), (1, .ref r), (2, .int (iI ((k : Nat) : Int)))]) hx hb d_Encoding_isGood_57 hl (by decide) rfl (fun ls hl => ?_)
            refine lv_aload_n hx hb d_Encoding_isGood_59 rfl (lv_at hl 2 rfl) ?_
            refine lv_iload hx hb d_Encoding_isGood_60 (lv_at hl 0 rfl) ?_
            refine zl_i2l hx hb d_Encoding_isGood_62 (by omega) ?_
            refine zcR (va_runV (As := [.long (jL ((sp_chr utf b k : Nat) : Int))]) (rest := []) S (c_Encoding_exists l E h utf (sp_chr utf b k) (by omega)) ⟨zcwB (n := 1) S zw_449 zw_7 zw_446 (by decide +kernel) rfl rfl ⟨Nat.le_of_ble_eq_true rfl, Nat.le_of_ble_eq_true rfl⟩, S.2.2.2.2 _ zw_447, S.2.2.2.2 _ zw_448⟩ (zPreV hE hp rfl hp) rfl rfl hl.1 rfl (lv_room (Nat.le_of_ble_eq_true rfl)) d_Encoding_isGood_63 ⟨Nat.zero_le _, Nat.zero_le _⟩) ?_
            refine zb_ifeq hx hb d_Encoding_isGood_66 rfl (fun h66 => ?_) (fun h66 => ?_)
            · refine zi_iconst hx hb d_Encoding_isGood_83 ?_
              exact zretZ (b := false) S hr hlk d_Encoding_isGood_84 (by refine Eq.symm ?_; unfold sp_good; simp [*] <;> omega)
            · refine lv_aload_n hx hb d_Encoding_isGood_69 rfl (lv_at hl 2 rfl) ?_
              refine lv_iload hx hb d_Encoding_isGood_70 (lv_at hl 0 rfl) ?_
              refine zcR (va_runV (As := [.int (iI ((sp_chr utf b k : Nat) : Int))]) (rest := []) S (c_Encoding_lengthOf l E h utf (sp_chr utf b k) (by omega)) ⟨zcwB (n := 1) S zw_457 zw_7 zw_454 (by decide +kernel) rfl rfl ⟨Nat.le_of_ble_eq_true rfl, Nat.le_of_ble_eq_true rfl⟩, S.2.2.2.2 _ zw_455, S.2.2.2.2 _ zw_456⟩ (zPreV hE hp rfl hp) rfl rfl hl.1 rfl (lv_room (Nat.le_of_ble_eq_true rfl)) d_Encoding_isGood_72 ⟨Nat.zero_le _, Nat.zero_le _⟩) ?_
              have hb72 := sp_len_le utf (sp_chr utf b k)
              refine lv_iload_n hx hb d_Encoding_isGood_75 rfl (lv_at hl 1 rfl) ?_
              refine zi_icmp_ne hx hb d_Encoding_isGood_76 rfl (by omega) (by omega) (fun h76 => ?_) (fun h76 => ?_)
              · refine zi_iconst hx hb d_Encoding_isGood_83 ?_
                exact zretZ (b := false) S hr hlk d_Encoding_isGood_84 (by refine Eq.symm ?_; unfold sp_good; simp [*] <;> omega)
              · refine zi_iconst hx hb d_Encoding_isGood_79 ?_
                refine lv_goto hx hb d_Encoding_isGood_80 rfl ?_
                exact zretZ (b := true) S hr hlk d_Encoding_isGood_84 (by refine Eq.symm ?_; unfold sp_good; simp [*] <;> omega)
          · have q3 : sp_con b (k + 3) = false := by rw [sp_con_at, show ((k + 3 : Nat) : Int) = (k : Int) + 3 by omega]; exact decide_eq_false (by omega)
            refine zi_iconst hx hb d_Encoding_isGood_43 ?_
            exact zretZ (b := false) S hr hlk d_Encoding_isGood_44 (by refine Eq.symm ?_; unfold sp_good; simp [*] <;> omega)
        · have q2 : sp_con b (k + 2) = false := by rw [sp_con_at, show ((k + 2 : Nat) : Int) = (k : Int) + 2 by omega]; exact decide_eq_false (by omega)
          refine zi_iconst hx hb d_Encoding_isGood_43 ?_
          exact zretZ (b := false) S hr hlk d_Encoding_isGood_44 (by refine Eq.symm ?_; unfold sp_good; simp [*] <;> omega)
      · have q1 : sp_con b (k + 1) = false := by rw [sp_con_at, show ((k + 1 : Nat) : Int) = (k : Int) + 1 by omega]; exact decide_eq_false (by omega)
        refine zi_iconst hx hb d_Encoding_isGood_43 ?_
        exact zretZ (b := false) S hr hlk d_Encoding_isGood_44 (by refine Eq.symm ?_; unfold sp_good; simp [*] <;> omega)
  · refine zi_iconst hx hb d_Encoding_isGood_14 ?_
    exact zretZ (b := false) S hr hlk d_Encoding_isGood_15 (by refine Eq.symm ?_; unfold sp_good; simp [*] <;> omega)
end
section
set_option maxRecDepth 100000 in
set_option maxHeartbeats 4000000 in
theorem c_Encoding_firstBad (l : Launch) (E : zP) (h r : Nat) (utf : Bool) (b : List Nat) : Met l y_Encoding_firstBad (.code y_Encoding_firstBad b_Encoding_firstBad 3 ( some FieldType.int ) :: zw) { frames := 3, cells := 0, slots := 0, locals := 71 } (zPc E [.ref h, .ref r] (fun H => zO E 2 h [.int (iI (bN utf))] H ∧ zrow E r b H)) (zR (some (.int (iI (sp_fault utf b))))) 0 0 (fun _ => False) := by
  refine zMet (by decide) (Nat.le_of_ble_eq_true rfl) ?_
  intro p e s m below meth c ls S hr hlk hnm hE ⟨hp, hrow⟩ hl
  have hx := S.1
  have hb := S.2.1
  have hl : lv_has ls 3 [(0, .ref h), (1, .ref r)] := hl
  have hbl := zrow.len hrow
  refine lv_aload_n hx hb d_Encoding_firstBad_0 rfl (lv_at hl 0 rfl) ?_
  refine zgf S hE (ci := 2) rfl i_Encoding hp 0 (by decide) zw_127 rfl d_Encoding_firstBad_1 ?_
  refine zb_ifne hx hb d_Encoding_firstBad_4 rfl (fun h4 => ?_) (fun h4 => ?_)
  · refine zi_iconst hx hb d_Encoding_firstBad_9 ?_
    refine lv_istore_n (lv' := [(2, .int (iI 0)), (0, .ref h), (1, .ref r)]) hx hb d_Encoding_firstBad_10 rfl hl (by decide) rfl (fun ls hl => ?_)
    have key : ∃ (k : Nat) (f : Nat), (b.length ≤ k + f ∧ k ≤ b.length ∧ (sp_dec utf b f k).2 = sp_fault utf b) ∧ lv_has ls 3 [(2, .int (iI ((k : Nat) : Int))), (0, .ref h), (1, .ref r)] := ⟨0, b.length, ⟨by omega, by omega, rfl⟩, hl⟩
    clear hl
    obtain ⟨k, f, hinv, hl⟩ := key
    obtain ⟨n, hn⟩ : ∃ n : Nat, b.length - k < n := ⟨_, Nat.lt_succ_self _⟩
    induction n generalizing k f ls with
    | zero => exact absurd hn (Nat.not_lt_zero _)
    | succ n ih =>
      obtain ⟨h1, h2, h3⟩ := hinv
      refine lv_iload_n hx hb d_Encoding_firstBad_11 rfl (lv_at hl 0 rfl) ?_
      refine lv_aload_n hx hb d_Encoding_firstBad_12 rfl (lv_at hl 2 rfl) ?_
      refine zcR (va_runV (As := []) (rest := [.int (iI ((k : Nat) : Int))]) S (c_Row_length l E r b) ⟨zcwB (n := 0) S zw_258 zw_2 zw_429 (by decide +kernel) rfl rfl ⟨Nat.le_of_ble_eq_true rfl, Nat.le_of_ble_eq_true rfl⟩, S.2.2.2.2 _ zw_256, S.2.2.2.2 _ zw_257⟩ (zPreVrow hE hrow hrow) rfl rfl hl.1 rfl (lv_room (Nat.le_of_ble_eq_true rfl)) d_Encoding_firstBad_13 ⟨Nat.zero_le _, Nat.zero_le _⟩) ?_
      refine zi_icmp_ge hx hb d_Encoding_firstBad_16 rfl (by omega) (by omega) (fun h16 => ?_) (fun h16 => ?_)
      · refine zi_iconst hx hb d_Encoding_firstBad_49 ?_
        exact zretI S hr hlk d_Encoding_firstBad_50 (congrArg iI (by rw [← h3, sp_dec_end (by omega)]))
      · have h16 : k < b.length := by omega
        refine lv_aload_n hx hb d_Encoding_firstBad_19 rfl (lv_at hl 1 rfl) ?_
        refine lv_aload_n hx hb d_Encoding_firstBad_20 rfl (lv_at hl 2 rfl) ?_
        refine lv_iload_n hx hb d_Encoding_firstBad_21 rfl (lv_at hl 0 rfl) ?_
        refine zcR (va_runV (As := [.ref r, .int (iI ((k : Nat) : Int))]) (rest := []) S (c_Encoding_isGood l E h r utf b k (by omega)) ⟨zcwB (n := 2) S zw_433 zw_7 zw_430 (by decide +kernel) rfl rfl ⟨Nat.le_of_ble_eq_true rfl, Nat.le_of_ble_eq_true rfl⟩, S.2.2.2.2 _ zw_432, S.2.2.2.2 _ zs_2⟩ (zPreV hE hp rfl ⟨hp, hrow⟩) rfl rfl hl.1 rfl (lv_room (Nat.le_of_ble_eq_true rfl)) d_Encoding_firstBad_22 ⟨Nat.zero_le _, Nat.zero_le _⟩) ?_
        refine zb_ifne hx hb d_Encoding_firstBad_25 rfl (fun h25 => ?_) (fun h25 => ?_)
        · refine lv_iload_n hx hb d_Encoding_firstBad_30 rfl (lv_at hl 0 rfl) ?_
          refine zi_iconst hx hb d_Encoding_firstBad_31 ?_
          refine lv_aload_n hx hb d_Encoding_firstBad_32 rfl (lv_at hl 1 rfl) ?_
          refine lv_aload_n hx hb d_Encoding_firstBad_33 rfl (lv_at hl 2 rfl) ?_
          refine lv_iload_n hx hb d_Encoding_firstBad_34 rfl (lv_at hl 0 rfl) ?_
          refine zcR (va_runV (As := [.int (iI ((k : Nat) : Int))]) (rest := [.ref h, .int (iI 1), .int (iI ((k : Nat) : Int))]) S (c_Row_at l E r b ((k : Nat) : Int) (by omega)) ⟨zcwB (n := 1) S zw_437 zw_2 zw_434 (by decide +kernel) rfl rfl ⟨Nat.le_of_ble_eq_true rfl, Nat.le_of_ble_eq_true rfl⟩, S.2.2.2.2 _ zw_435, S.2.2.2.2 _ zw_436⟩ (zPreVrow hE hrow hrow) rfl rfl hl.1 rfl (lv_room (Nat.le_of_ble_eq_true rfl)) d_Encoding_firstBad_35 ⟨Nat.zero_le _, Nat.zero_le _⟩) ?_
          rw [sp_at_in (n := k) (by omega) (by omega)]
          have hb35 := sp_b_lt (zrow.lt hrow) (k)
          refine zcR (va_runV (As := [.int (iI ((sp_b b k : Nat) : Int))]) (rest := [.int (iI 1), .int (iI ((k : Nat) : Int))]) S (c_Encoding_lengthBehind l E h utf (sp_b b k) (by omega)) ⟨zcwB (n := 1) S zw_441 zw_7 zw_438 (by decide +kernel) rfl rfl ⟨Nat.le_of_ble_eq_true rfl, Nat.le_of_ble_eq_true rfl⟩, S.2.2.2.2 _ zw_439, S.2.2.2.2 _ zw_440⟩ (zPreV hE hp rfl hp) rfl rfl hl.1 rfl (lv_room (Nat.le_of_ble_eq_true rfl)) d_Encoding_firstBad_38 ⟨Nat.zero_le _, Nat.zero_le _⟩) ?_
          have hb38 := sp_lead_le utf (sp_b b k)
          refine zcR (va_runS (As := [.int (iI 1), .int (iI ((sp_lead utf (sp_b b k) : Nat) : Int))]) (rest := [.int (iI ((k : Nat) : Int))]) S (c_Math_max l E 1 ((sp_lead utf (sp_b b k) : Nat) : Int) (by omega) (by omega)) ⟨zcwB (n := 2) S zw_461 zw_23 zw_459 (by decide +kernel) rfl rfl ⟨Nat.le_of_ble_eq_true rfl, Nat.le_of_ble_eq_true rfl⟩, S.2.2.2.2 _ zw_460⟩ (zPreS hE trivial) rfl rfl hl.1 rfl (lv_room (Nat.le_of_ble_eq_true rfl)) d_Encoding_firstBad_41 ⟨Nat.zero_le _, Nat.zero_le _⟩) ?_
          refine zi_iadd hx hb d_Encoding_firstBad_44 ?_
          refine lv_istore_n (lv' := [(2, .int (iI (((k : Nat) : Int) + (max 1 ((sp_lead utf (sp_b b k) : Nat) : Int))))), (0, .ref h), (1, .ref r)]) hx hb d_Encoding_firstBad_45 rfl hl (by decide) rfl (fun ls hl => ?_)
          have hg1 := sp_good_lead h25
          have hg2 := sp_good_len h16 h25
          rw [show ((k : Nat) : Int) + max 1 ((sp_lead utf (sp_b b k) : Nat) : Int) = ((k + sp_lead utf (sp_b b k) : Nat) : Int) by omega] at hl
          refine lv_goto hx hb d_Encoding_firstBad_46 rfl ?_
          exact ih ls (k + sp_lead utf (sp_b b k)) (f - 1) (⟨by omega, by omega, by rw [← h3]; obtain ⟨f, rfl⟩ : ∃ g, f = g + 1 := ⟨f - 1, by omega⟩; rw [sp_dec_go h16 h25]; rfl⟩) (lv_sub hl [0, 1, 2] rfl) (by omega)
        · refine lv_iload_n hx hb d_Encoding_firstBad_28 rfl (lv_at hl 0 rfl) ?_
          exact zretI S hr hlk d_Encoding_firstBad_29 (congrArg iI (by rw [← h3, sp_dec_bad h1 (by omega) h25]))
  · refine zi_iconst hx hb d_Encoding_firstBad_7 ?_
    exact zretI S hr hlk d_Encoding_firstBad_8 (congrArg iI (by subst h4; exact (sp_fault_false (zrow.lt hrow)).symm))

set_option maxRecDepth 100000 in
set_option maxHeartbeats 4000000 in
theorem c_Encoding_charactersIn (l : Launch) (E : zP) (h r : Nat) (utf : Bool) (b : List Nat) : Met l y_Encoding_charactersIn (.code y_Encoding_charactersIn b_Encoding_charactersIn 4 ( some FieldType.int ) :: zw) { frames := 1, cells := 0, slots := 0, locals := 21 } (zPc E [.ref h, .ref r] (fun H => zO E 2 h [.int (iI (bN utf))] H ∧ zrow E r b H)) (zR (some (.int (iI (sp_cnt utf b : Nat))))) 0 0 (fun _ => False) := by
  refine zMet (by decide) (Nat.le_of_ble_eq_true rfl) ?_
  intro p e s m below meth c ls S hr hlk hnm hE ⟨hp, hrow⟩ hl
  have hx := S.1
  have hb := S.2.1
  have hl : lv_has ls 4 [(0, .ref h), (1, .ref r)] := hl
  have hbl := zrow.len hrow
  refine zi_iconst hx hb d_Encoding_charactersIn_0 ?_
  refine lv_istore_n (lv' := [(2, .int (iI 0)), (0, .ref h), (1, .ref r)]) hx hb d_Encoding_charactersIn_1 rfl hl (by decide) rfl (fun ls hl => ?_)
  refine zi_iconst hx hb d_Encoding_charactersIn_2 ?_
  refine lv_istore_n (lv' := [(3, .int (iI 0)), (2, .int (iI 0)), (0, .ref h), (1, .ref r)]) hx hb d_Encoding_charactersIn_3 rfl hl (by decide) rfl (fun ls hl => ?_)
  have key : ∃ (k : Nat) (n2 : Nat), (k ≤ b.length ∧ n2 = sp_cnt utf (b.take k)) ∧ lv_has ls 4 [(3, .int (iI ((k : Nat) : Int))), (2, .int (iI ((n2 : Nat) : Int))), (0, .ref h), (1, .ref r)] := ⟨0, 0, ⟨by omega, rfl⟩, hl⟩
  clear hl
  obtain ⟨k, n2, hinv, hl⟩ := key
  obtain ⟨n, hn⟩ : ∃ n : Nat, b.length - k < n := ⟨_, Nat.lt_succ_self _⟩
  induction n generalizing k n2 ls with
  | zero => exact absurd hn (Nat.not_lt_zero _)
  | succ n ih =>
    obtain ⟨h1, h2⟩ := hinv
    have h2b := sp_cnt_le utf b k
    refine lv_iload_n hx hb d_Encoding_charactersIn_4 rfl (lv_at hl 0 rfl) ?_
    refine lv_aload_n hx hb d_Encoding_charactersIn_5 rfl (lv_at hl 3 rfl) ?_
    refine zcR (va_runV (As := []) (rest := [.int (iI ((k : Nat) : Int))]) S (c_Row_length l E r b) ⟨zcwB (n := 0) S zw_258 zw_2 zw_429 (by decide +kernel) rfl rfl ⟨Nat.le_of_ble_eq_true rfl, Nat.le_of_ble_eq_true rfl⟩, S.2.2.2.2 _ zw_256, S.2.2.2.2 _ zw_257⟩ (zPreVrow hE hrow hrow) rfl rfl hl.1 rfl (lv_room (Nat.le_of_ble_eq_true rfl)) d_Encoding_charactersIn_6 ⟨Nat.zero_le _, Nat.zero_le _⟩) ?_
    refine zi_icmp_ge hx hb d_Encoding_charactersIn_9 rfl (by omega) (by omega) (fun h9 => ?_) (fun h9 => ?_)
    · refine lv_iload_n hx hb d_Encoding_charactersIn_43 rfl (lv_at hl 1 rfl) ?_
      exact zretI S hr hlk d_Encoding_charactersIn_44 (congrArg iI (by rw [h2, List.take_of_length_le (by omega)]))
    · refine lv_aload_n hx hb d_Encoding_charactersIn_12 rfl (lv_at hl 2 rfl) ?_
      refine zgf S hE (ci := 2) rfl i_Encoding hp 0 (by decide) zw_127 rfl d_Encoding_charactersIn_13 ?_
      refine zb_ifeq hx hb d_Encoding_charactersIn_16 rfl (fun h16 => ?_) (fun h16 => ?_)
      · refine lv_iinc (k := 1) (v := (iI (((n2 : Nat) : Int) + 1))) (lv' := [(2, .int (iI (((n2 : Nat) : Int) + 1))), (3, .int (iI ((k : Nat) : Int))), (0, .ref h), (1, .ref r)]) hx hb d_Encoding_charactersIn_34 hl rfl (iI_add _ _) (by decide) rfl (fun ls hl => ?_)
        refine lv_iinc (k := 1) (v := (iI (((k : Nat) : Int) + 1))) (lv' := [(3, .int (iI (((k : Nat) : Int) + 1))), (2, .int (iI (((n2 : Nat) : Int) + 1))), (0, .ref h), (1, .ref r)]) hx hb d_Encoding_charactersIn_37 hl rfl (iI_add _ _) (by decide) rfl (fun ls hl => ?_)
        refine lv_goto hx hb d_Encoding_charactersIn_40 rfl ?_
        exact ih ls (k + 1) (n2 + 1) (⟨by omega, by rw [sp_cnt_succ utf b k (by omega), ← h2, if_pos (by unfold sp_beg; first | (rw [h16]; rfl) | (simp; omega))]⟩) (lv_sub hl [0, 1, 2, 3] rfl) (by omega)
      · refine lv_aload_n hx hb d_Encoding_charactersIn_19 rfl (lv_at hl 3 rfl) ?_
        refine lv_iload_n hx hb d_Encoding_charactersIn_20 rfl (lv_at hl 0 rfl) ?_
        refine zcR (va_runV (As := [.int (iI ((k : Nat) : Int))]) (rest := []) S (c_Row_at l E r b ((k : Nat) : Int) (by omega)) ⟨zcwB (n := 1) S zw_437 zw_2 zw_434 (by decide +kernel) rfl rfl ⟨Nat.le_of_ble_eq_true rfl, Nat.le_of_ble_eq_true rfl⟩, S.2.2.2.2 _ zw_435, S.2.2.2.2 _ zw_436⟩ (zPreVrow hE hrow hrow) rfl rfl hl.1 rfl (lv_room (Nat.le_of_ble_eq_true rfl)) d_Encoding_charactersIn_21 ⟨Nat.zero_le _, Nat.zero_le _⟩) ?_
        rw [sp_at_in (n := k) (by omega) (by omega)]
        have hb21 := sp_b_lt (zrow.lt hrow) (k)
        refine zi_sipush hx hb d_Encoding_charactersIn_24 (by decide) ?_
        refine zi_iand hx hb d_Encoding_charactersIn_27 (iI_c0 (by omega) (by omega)) ?_
        refine zi_sipush hx hb d_Encoding_charactersIn_28 (by decide) ?_
        refine zi_icmp_eq hx hb d_Encoding_charactersIn_31 rfl (by omega) (by omega) (fun h31 => ?_) (fun h31 => ?_)
        · refine lv_iinc (k := 0) (v := (iI (((k : Nat) : Int) + 1))) (lv' := [(3, .int (iI (((k : Nat) : Int) + 1))), (2, .int (iI ((n2 : Nat) : Int))), (0, .ref h), (1, .ref r)]) hx hb d_Encoding_charactersIn_37 hl rfl (iI_add _ _) (by decide) rfl (fun ls hl => ?_)
          refine lv_goto hx hb d_Encoding_charactersIn_40 rfl ?_
          exact ih ls (k + 1) n2 (⟨by omega, by rw [sp_cnt_succ utf b k (by omega), ← h2, if_neg (by unfold sp_beg; rw [h16]; simp; omega)]; rfl⟩) (lv_sub hl [0, 1, 2, 3] rfl) (by omega)
        · refine lv_iinc (k := 1) (v := (iI (((n2 : Nat) : Int) + 1))) (lv' := [(2, .int (iI (((n2 : Nat) : Int) + 1))), (3, .int (iI ((k : Nat) : Int))), (0, .ref h), (1, .ref r)]) hx hb d_Encoding_charactersIn_34 hl rfl (iI_add _ _) (by decide) rfl (fun ls hl => ?_)
          refine lv_iinc (k := 1) (v := (iI (((k : Nat) : Int) + 1))) (lv' := [(3, .int (iI (((k : Nat) : Int) + 1))), (2, .int (iI (((n2 : Nat) : Int) + 1))), (0, .ref h), (1, .ref r)]) hx hb d_Encoding_charactersIn_37 hl rfl (iI_add _ _) (by decide) rfl (fun ls hl => ?_)
          refine lv_goto hx hb d_Encoding_charactersIn_40 rfl ?_
          exact ih ls (k + 1) (n2 + 1) (⟨by omega, by rw [sp_cnt_succ utf b k (by omega), ← h2, if_pos (by unfold sp_beg; first | (rw [h16]; rfl) | (simp; omega))]⟩) (lv_sub hl [0, 1, 2, 3] rfl) (by omega)
end
section
set_option maxRecDepth 100000 in
set_option maxHeartbeats 4000000 in
theorem c_Arrays_copyOf_BI (l : Launch) (E : zP) (sz : Nat) (q cap n : Nat) (f : Nat → Int32) (hf : ∀ i, i < cap → fits .byte (.int (f i)) = true) (hn : cap < n) (hn2 : n < 536870912) : Met l y_Arrays_copyOf_BI (.code y_Arrays_copyOf_BI b_Arrays_copyOf_BI 3 ( some ( FieldType.array FieldType.byte ) ) :: zw) { frames := 1, cells := (1), slots := (n), locals := 39 } (zPc E [.ref q, .int (iI ((n : Nat) : Int))] (fun H => H.size = sz ∧ va_P E.1 zcl [(q, .inl (E.2.1 0, cap, .inl f))] H ∧ va_D (zOld E) [(q, .inl (E.2.1 0, cap, .inl f))] ∧ (True))) (zW (fun v H => ∃ q2, v = some (.ref q2) ∧ va_P E.1 zcl [(q, .inl (E.2.1 0, cap, .inl f)), (q2, .inl (E.2.1 0, n, .inl (va_cpy f (fun _ => 0) 0 0 cap)))] H ∧ va_D (va_A [(q, .inl (E.2.1 0, cap, .inl f))] sz) [(q, .inl (E.2.1 0, cap, .inl f)), (q2, .inl (E.2.1 0, n, .inl (va_cpy f (fun _ => 0) 0 0 cap)))]) (va_A [(q, .inl (E.2.1 0, cap, .inl f))] sz)) (1) (n) (va_A [(q, .inl (E.2.1 0, cap, .inl f))] sz) := by
  refine zMetF (by decide +kernel) (Nat.le_of_ble_eq_true rfl) ?_
  intro p e s m below meth c ls S hr hlk hnm hE ⟨hsz, hP, hDo, hX⟩ hl
  have hx := S.1
  have hb := S.2.1
  have hE0 := hE
  have hl : lv_has ls 3 [(0, .ref q), (1, .int (iI ((n : Nat) : Int)))] := hl
  subst hsz
  have hD := hDo.self (sz := s.heap.size)
  generalize hAe : va_A [(q, .inl (E.2.1 0, cap, .inl f))] s.heap.size = A at hD ⊢
  have hA : ∀ q : Nat, s.heap.size ≤ q → A q := fun q h => by rw [← hAe]; exact Or.inr h
  have hA0 := zA0 hE hDo hAe
  have hS : va_S A s.heap s.heap [] := va_S.rf
  refine lv_iload_n hx hb d_Arrays_copyOf_BI_0 rfl (lv_at hl 1 rfl) ?_
  refine lv_aload_n hx hb d_Arrays_copyOf_BI_1 rfl (lv_at hl 0 rfl) ?_
  refine zalen hx hb hE 0 (by decide) (hP 0 _ rfl) rfl d_Arrays_copyOf_BI_2 ?_
  refine zi_icmp_ne hx hb d_Arrays_copyOf_BI_3 rfl (by omega) (by omega) (fun h3 => ?_) (fun h => absurd h (by omega))
  refine lv_iload_n hx hb d_Arrays_copyOf_BI_14 rfl (lv_at hl 1 rfl) ?_
  refine znewa (atype := .byte) (k := 0) (N := n) (a0 := (n, .inl (fun _ => 0))) S hE zw_64 rfl (zfc0 hE) hP hD hS hA (fun _ => rfl) (by omega) (by omega) (by omega) (by show _ * 1 ≤ _; omega) (by (try dsimp only); omega) (by (try dsimp only); omega) d_Arrays_copyOf_BI_15 (fun q15 H hP hD hS => ?_)
  have hP : va_P E.1 zcl [(q, .inl (E.2.1 0, cap, .inl f)), (q15, .inl (E.2.1 0, n, .inl (fun _ => 0)))] H := hP
  have hD : va_D A [(q, .inl (E.2.1 0, cap, .inl f)), (q15, .inl (E.2.1 0, n, .inl (fun _ => 0)))] := hD
  have hE := hE0.at hS hA0
  refine lv_astore_n (lv' := [(2, .ref q15), (0, .ref q), (1, .int (iI ((n : Nat) : Int)))]) hx hb d_Arrays_copyOf_BI_17 rfl hl (by decide) rfl (fun ls hl => ?_)
  refine lv_aload_n hx hb d_Arrays_copyOf_BI_18 rfl (lv_at hl 1 rfl) ?_
  refine zi_iconst hx hb d_Arrays_copyOf_BI_19 ?_
  refine lv_aload_n hx hb d_Arrays_copyOf_BI_20 rfl (lv_at hl 0 rfl) ?_
  refine zi_iconst hx hb d_Arrays_copyOf_BI_21 ?_
  refine lv_aload_n hx hb d_Arrays_copyOf_BI_22 rfl (lv_at hl 1 rfl) ?_
  refine zalen hx hb hE 0 (by decide) (hP 0 _ rfl) rfl d_Arrays_copyOf_BI_23 ?_
  refine lv_iload_n hx hb d_Arrays_copyOf_BI_24 rfl (lv_at hl 2 rfl) ?_
  refine zcR (va_runS (As := [.int (iI ((cap : Nat) : Int)), .int (iI ((n : Nat) : Int))]) (rest := [.int (iI 0), .ref q15, .int (iI 0), .ref q]) S (c_Math_min l E ((cap : Nat) : Int) ((n : Nat) : Int) (by omega) (by omega)) ⟨zcwB (n := 2) S zw_366 zw_23 zw_364 (by decide +kernel) rfl rfl ⟨Nat.le_of_ble_eq_true rfl, Nat.le_of_ble_eq_true rfl⟩, S.2.2.2.2 _ zw_365⟩ (zPreS hE trivial) rfl rfl hl.1 rfl (lv_room (Nat.le_of_ble_eq_true rfl)) d_Arrays_copyOf_BI_25 ⟨by (try dsimp only); omega, by (try dsimp only); omega⟩) ?_
  refine zcopy S zw_367 hE hP hD hS 0 1 0 rfl rfl rfl rfl rfl (by omega) (by omega) (by omega) (by omega) (by omega) (fun i hi => by rw [Int.toNat_zero, Nat.zero_add]; exact hf i (by omega)) hl.1 (Nat.le_of_ble_eq_true rfl) (by (try dsimp only); decide) d_Arrays_copyOf_BI_28 (fun H locs hP hD hS => ?_)
  have hP : va_P E.1 zcl [(q, .inl (E.2.1 0, cap, .inl f)), (q15, .inl (E.2.1 0, n, .inl (va_cpy f (fun _ => 0) (Int.toNat 0) (Int.toNat 0) (Int.toNat (min ((cap : Nat) : Int) ((n : Nat) : Int))))))] H := hP
  have hD : va_D A [(q, .inl (E.2.1 0, cap, .inl f)), (q15, .inl (E.2.1 0, n, .inl (va_cpy f (fun _ => 0) (Int.toNat 0) (Int.toNat 0) (Int.toNat (min ((cap : Nat) : Int) ((n : Nat) : Int))))))] := hD
  have hE := hE0.at hS hA0
  refine lv_aload_n hx hb d_Arrays_copyOf_BI_31 rfl (lv_at hl 0 rfl) ?_
  exact zwa S hr (Or.inr ⟨_, rfl⟩) hlk hS (⟨q15, rfl, (by rw [show (Int.toNat (min ((cap : Nat) : Int) ((n : Nat) : Int))) = cap by omega] at hP; exact hP), (by rw [show (Int.toNat (min ((cap : Nat) : Int) ((n : Nat) : Int))) = cap by omega] at hD; exact hD)⟩) (by (try dsimp only); omega) (by (try dsimp only); omega) d_Arrays_copyOf_BI_32

set_option maxRecDepth 100000 in
set_option maxHeartbeats 4000000 in
theorem c_Row_cutTo (l : Launch) (E : zP) (sz : Nat) (h q len : Nat) (most k : Int) (hk : r32 k) (hlen : len < 2147483648) : Met l y_Row_cutTo (.code y_Row_cutTo b_Row_cutTo 2 ( Option.none : Option FieldType ) :: zw) { frames := 0, cells := (0), slots := (0), locals := 0 } (zPc E [.ref h, .int (iI k)] (fun H => H.size = sz ∧ va_P E.1 zcl [(h, .inr (1, [.int (iI most), .ref q, .int (iI ((len : Nat) : Int))]))] H ∧ va_D (zOld E) [(h, .inr (1, [.int (iI most), .ref q, .int (iI ((len : Nat) : Int))]))] ∧ (True))) (zW (fun v H => v = none ∧ va_P E.1 zcl [(h, .inr (1, [.int (iI most), .ref q, .int (iI (if 0 ≤ k ∧ k < (len : Int) then k else (len : Int)))]))] H ∧ va_D (va_A [(h, .inr (1, [.int (iI most), .ref q, .int (iI ((len : Nat) : Int))]))] sz) [(h, .inr (1, [.int (iI most), .ref q, .int (iI (if 0 ≤ k ∧ k < (len : Int) then k else (len : Int)))]))]) (va_A [(h, .inr (1, [.int (iI most), .ref q, .int (iI ((len : Nat) : Int))]))] sz)) (0) (0) (va_A [(h, .inr (1, [.int (iI most), .ref q, .int (iI ((len : Nat) : Int))]))] sz) := by
  refine zMet (by decide) (Nat.le_of_ble_eq_true rfl) ?_
  intro p e s m below meth c ls S hr hlk hnm hE ⟨hsz, hP, hDo, hX⟩ hl
  have hx := S.1
  have hb := S.2.1
  have hE0 := hE
  have hl : lv_has ls 2 [(0, .ref h), (1, .int (iI k))] := hl
  subst hsz
  have hD := hDo.self (sz := s.heap.size)
  generalize hAe : va_A [(h, .inr (1, [.int (iI most), .ref q, .int (iI ((len : Nat) : Int))]))] s.heap.size = A at hD ⊢
  have hA : ∀ q : Nat, s.heap.size ≤ q → A q := fun q h => by rw [← hAe]; exact Or.inr h
  have hA0 := zA0 hE hDo hAe
  have hS : va_S A s.heap s.heap [] := va_S.rf
  refine lv_iload_n hx hb d_Row_cutTo_0 rfl (lv_at hl 1 rfl) ?_
  refine zi_if_lt hx hb d_Row_cutTo_1 rfl (by omega) (fun h1 => ?_) (fun h1 => ?_)
  · exact zwv S hr hlk hS (⟨rfl, by first | (rw [if_pos (by omega)]; exact hP) | (rw [if_neg (by omega)]; exact hP), by first | (rw [if_pos (by omega)]; exact hD) | (rw [if_neg (by omega)]; exact hD)⟩) (by (try dsimp only); omega) (by (try dsimp only); omega) d_Row_cutTo_17
  · refine lv_iload_n hx hb d_Row_cutTo_4 rfl (lv_at hl 1 rfl) ?_
    refine lv_aload_n hx hb d_Row_cutTo_5 rfl (lv_at hl 0 rfl) ?_
    refine zgf S hE (ci := 1) rfl i_Row (hP 0 _ rfl) 2 (by decide) zw_56 rfl d_Row_cutTo_6 ?_
    refine zi_icmp_ge hx hb d_Row_cutTo_9 rfl (by omega) (by omega) (fun h9 => ?_) (fun h9 => ?_)
    · exact zwv S hr hlk hS (⟨rfl, by first | (rw [if_pos (by omega)]; exact hP) | (rw [if_neg (by omega)]; exact hP), by first | (rw [if_pos (by omega)]; exact hD) | (rw [if_neg (by omega)]; exact hD)⟩) (by (try dsimp only); omega) (by (try dsimp only); omega) d_Row_cutTo_17
    · refine lv_aload_n hx hb d_Row_cutTo_12 rfl (lv_at hl 0 rfl) ?_
      refine lv_iload_n hx hb d_Row_cutTo_13 rfl (lv_at hl 1 rfl) ?_
      refine va_put (D := E.1) (ci := 1) (v := .int (iI k)) (ty := .int) (C := "ReplacementWriter$Row") (T := F_Row) (N := 3) hx hb S.2.2.2.2 i_Row t_Row t_Row_ok n_Row S.2.2.2.1 hE.1 hP hD hS 0 rfl rfl 2 (by decide) (S.2.2.2.2 _ zw_56) (fun _ h9 => h9) rfl (by decide +kernel) rfl rfl (Nat.le_of_ble_eq_true rfl) d_Row_cutTo_14 (fun H locs hP hD hS => ?_)
      have hP : va_P E.1 zcl [(h, .inr (1, [.int (iI most), .ref q, .int (iI k)]))] H := hP
      have hD : va_D A [(h, .inr (1, [.int (iI most), .ref q, .int (iI k)]))] := hD
      have hE := hE0.at hS hA0
      exact zwv S hr hlk hS (⟨rfl, by first | (rw [if_pos (by omega)]; exact hP) | (rw [if_neg (by omega)]; exact hP), by first | (rw [if_pos (by omega)]; exact hD) | (rw [if_neg (by omega)]; exact hD)⟩) (by (try dsimp only); omega) (by (try dsimp only); omega) d_Row_cutTo_17

set_option maxRecDepth 100000 in
set_option maxHeartbeats 4000000 in
theorem c_Row_add (l : Launch) (E : zP) (sz : Nat) (h q cap n : Nat) (most : Int) (f : Nat → Int32) (b : List Nat) (w : Int32) (hw : w.toInt8.toInt32 = sb_b n) (hn : n < 256) (hB : zbytes b cap f) (hm : (b.length : Int) < most) (hm2 : most ≤ 262144) (hc : 16 ≤ cap) (hc2 : cap ≤ 262144) (hfit : zfit cap f) : Met l y_Row_add (.code y_Row_add b_Row_add 2 ( Option.none : Option FieldType ) :: zw) { frames := 2, cells := ((sp_grow cap b.length - cap) / 16), slots := (2 * (sp_grow cap b.length - cap)), locals := 61 } (zPc E [.ref h, .int w] (fun H => H.size = sz ∧ va_P E.1 zcl [(h, .inr (1, [.int (iI most), .ref q, .int (iI ((b.length : Nat) : Int))])), (q, .inl (E.2.1 0, cap, .inl f))] H ∧ va_D (zOld E) [(h, .inr (1, [.int (iI most), .ref q, .int (iI ((b.length : Nat) : Int))])), (q, .inl (E.2.1 0, cap, .inl f))] ∧ (True))) (zW (fun v H => v = none ∧ ∃ (q2 : Nat) (f2 : Nat → Int32), va_P E.1 zcl [(h, .inr (1, [.int (iI most), .ref q2, .int (iI (((b ++ [n]).length : Nat) : Int))])), (q2, .inl (E.2.1 0, sp_grow cap b.length, .inl f2))] H ∧ va_D (va_A [(h, .inr (1, [.int (iI most), .ref q, .int (iI ((b.length : Nat) : Int))])), (q, .inl (E.2.1 0, cap, .inl f))] sz) [(h, .inr (1, [.int (iI most), .ref q2, .int (iI (((b ++ [n]).length : Nat) : Int))])), (q2, .inl (E.2.1 0, sp_grow cap b.length, .inl f2))] ∧ zbytes (b ++ [n]) (sp_grow cap b.length) f2 ∧ zfit (sp_grow cap b.length) f2) (va_A [(h, .inr (1, [.int (iI most), .ref q, .int (iI ((b.length : Nat) : Int))])), (q, .inl (E.2.1 0, cap, .inl f))] sz)) ((sp_grow cap b.length - cap) / 16) (2 * (sp_grow cap b.length - cap)) (va_A [(h, .inr (1, [.int (iI most), .ref q, .int (iI ((b.length : Nat) : Int))])), (q, .inl (E.2.1 0, cap, .inl f))] sz) := by
  refine zMet (by decide) (Nat.le_of_ble_eq_true rfl) ?_
  intro p e s m below meth c ls S hr hlk hnm hE ⟨hsz, hP, hDo, hX⟩ hl
  have hx := S.1
  have hb := S.2.1
  have hE0 := hE
  have hl : lv_has ls 2 [(0, .ref h), (1, .int w)] := hl
  subst hsz
  have hD := hDo.self (sz := s.heap.size)
  generalize hAe : va_A [(h, .inr (1, [.int (iI most), .ref q, .int (iI ((b.length : Nat) : Int))])), (q, .inl (E.2.1 0, cap, .inl f))] s.heap.size = A at hD ⊢
  have hA : ∀ q : Nat, s.heap.size ≤ q → A q := fun q h => by rw [← hAe]; exact Or.inr h
  have hA0 := zA0 hE hDo hAe
  have hS : va_S A s.heap s.heap [] := va_S.rf
  have hBl := hB.1
  refine lv_aload_n hx hb d_Row_add_0 rfl (lv_at hl 0 rfl) ?_
  refine zgf S hE (ci := 1) rfl i_Row (hP 0 _ rfl) 2 (by decide) zw_56 rfl d_Row_add_1 ?_
  refine lv_aload_n hx hb d_Row_add_4 rfl (lv_at hl 0 rfl) ?_
  refine zgf S hE (ci := 1) rfl i_Row (hP 0 _ rfl) 0 (by decide) zw_54 rfl d_Row_add_5 ?_
  refine zi_icmp_lt hx hb d_Row_add_8 rfl (by omega) (by omega) (fun h8 => ?_) (fun h => absurd h (by omega))
  refine lv_aload_n hx hb d_Row_add_12 rfl (lv_at hl 0 rfl) ?_
  refine zgf S hE (ci := 1) rfl i_Row (hP 0 _ rfl) 2 (by decide) zw_56 rfl d_Row_add_13 ?_
  refine lv_aload_n hx hb d_Row_add_16 rfl (lv_at hl 0 rfl) ?_
  refine zgf S hE (ci := 1) rfl i_Row (hP 0 _ rfl) 1 (by decide) zw_55 rfl d_Row_add_17 ?_
  refine zalen hx hb hE 0 (by decide) (hP 1 _ rfl) rfl d_Row_add_20 ?_
  refine zi_icmp_lt hx hb d_Row_add_21 rfl (by omega) (by omega) (fun h21 => ?_) (fun h21 => ?_)
  · rw [show sp_grow cap b.length = cap from if_pos (by omega)]
    have hB2 := hB
    have hF2 := hfit
    refine lv_aload_n hx hb d_Row_add_42 rfl (lv_at hl 0 rfl) ?_
    refine zgf S hE (ci := 1) rfl i_Row (hP 0 _ rfl) 1 (by decide) zw_55 rfl d_Row_add_43 ?_
    refine lv_aload_n hx hb d_Row_add_46 rfl (lv_at hl 0 rfl) ?_
    refine zgf S hE (ci := 1) rfl i_Row (hP 0 _ rfl) 2 (by decide) zw_56 rfl d_Row_add_47 ?_
    refine lv_iload_n hx hb d_Row_add_50 rfl (lv_at hl 1 rfl) ?_
    refine lv_i2b hx hb d_Row_add_51 rfl ?_
    refine zbast hx hb hE hP hD hS 1 rfl (by omega) (by omega) (by omega) d_Row_add_52 (fun H locs hP hD hS => ?_)
    have hP : va_P E.1 zcl [(h, .inr (1, [.int (iI most), .ref q, .int (iI ((b.length : Nat) : Int))])), (q, .inl (E.2.1 0, cap, .inl (upd f (Int.toNat ((b.length : Nat) : Int)) (vp_nar .byte ((w).toInt8.toInt32)))))] H := hP
    have hD : va_D A [(h, .inr (1, [.int (iI most), .ref q, .int (iI ((b.length : Nat) : Int))])), (q, .inl (E.2.1 0, cap, .inl (upd f (Int.toNat ((b.length : Nat) : Int)) (vp_nar .byte ((w).toInt8.toInt32)))))] := hD
    have hE := hE0.at hS hA0
    refine lv_aload_n hx hb d_Row_add_53 rfl (lv_at hl 0 rfl) ?_
    refine lv_dup hx hb d_Row_add_54 rfl ?_
    refine zgf S hE (ci := 1) rfl i_Row (hP 0 _ rfl) 2 (by decide) zw_56 rfl d_Row_add_55 ?_
    refine zi_iconst hx hb d_Row_add_58 ?_
    refine zi_iadd hx hb d_Row_add_59 ?_
    refine va_put (D := E.1) (ci := 1) (v := .int (iI (((b.length : Nat) : Int) + 1))) (ty := .int) (C := "ReplacementWriter$Row") (T := F_Row) (N := 3) hx hb S.2.2.2.2 i_Row t_Row t_Row_ok n_Row S.2.2.2.1 hE.1 hP hD hS 0 rfl rfl 2 (by decide) (S.2.2.2.2 _ zw_56) (fun _ h9 => h9) rfl (by decide +kernel) rfl rfl (Nat.le_of_ble_eq_true rfl) d_Row_add_60 (fun H locs hP hD hS => ?_)
    have hP : va_P E.1 zcl [(h, .inr (1, [.int (iI most), .ref q, .int (iI (((b.length : Nat) : Int) + 1))])), (q, .inl (E.2.1 0, cap, .inl (upd f (Int.toNat ((b.length : Nat) : Int)) (vp_nar .byte ((w).toInt8.toInt32)))))] H := hP
    have hD : va_D A [(h, .inr (1, [.int (iI most), .ref q, .int (iI (((b.length : Nat) : Int) + 1))])), (q, .inl (E.2.1 0, cap, .inl (upd f (Int.toNat ((b.length : Nat) : Int)) (vp_nar .byte ((w).toInt8.toInt32)))))] := hD
    have hE := hE0.at hS hA0
    rw [show ((b.length : Nat) : Int) + 1 = (((b ++ [n]).length : Nat) : Int) by simp] at hP hD
    exact zwv S hr hlk hS (⟨rfl, q, _, hP.sub (ws' := [(h, .inr (1, [.int (iI most), .ref q, .int (iI (((b ++ [n]).length : Nat) : Int))])), (q, .inl (E.2.1 0, cap, .inl (upd f (Int.toNat ((b.length : Nat) : Int)) (vp_nar .byte ((w).toInt8.toInt32)))))]) [0, 1] rfl, hD.sub (ws' := [(h, .inr (1, [.int (iI most), .ref q, .int (iI (((b ++ [n]).length : Nat) : Int))])), (q, .inl (E.2.1 0, cap, .inl (upd f (Int.toNat ((b.length : Nat) : Int)) (vp_nar .byte ((w).toInt8.toInt32)))))]) [0, 1] (by decide) rfl, by rw [Int.toNat_natCast]; exact zbytes_push hB2 (by omega) hn (by rw [sb_nar, hw]), zfit_upd hF2 (by rw [sb_nar, hw]; exact sb_fitB n)⟩) (by (try dsimp only); omega) (by (try dsimp only); omega) d_Row_add_63
  · rw [show sp_grow cap b.length = 4 * cap from if_neg (by omega)]
    have hB2 := zbytes_grow hB (n := 4 * cap) (by omega) (by omega)
    have hF2 := zfit_grow (n := 4 * cap) hfit
    refine lv_aload_n hx hb d_Row_add_24 rfl (lv_at hl 0 rfl) ?_
    refine lv_aload_n hx hb d_Row_add_25 rfl (lv_at hl 0 rfl) ?_
    refine zgf S hE (ci := 1) rfl i_Row (hP 0 _ rfl) 1 (by decide) zw_55 rfl d_Row_add_26 ?_
    refine zi_iconst hx hb d_Row_add_29 ?_
    refine lv_aload_n hx hb d_Row_add_30 rfl (lv_at hl 0 rfl) ?_
    refine zgf S hE (ci := 1) rfl i_Row (hP 0 _ rfl) 1 (by decide) zw_55 rfl d_Row_add_31 ?_
    refine zalen hx hb hE 0 (by decide) (hP 1 _ rfl) rfl d_Row_add_34 ?_
    refine zi_imul hx hb d_Row_add_35 ?_
    rw [show (4 : Int) * ((cap : Nat) : Int) = ((4 * cap : Nat) : Int) by omega]
    have hPc := hP.sub (ws' := [(q, .inl (E.2.1 0, cap, .inl f))]) [1] rfl
    have hDc := hD.sub (ws' := [(q, .inl (E.2.1 0, cap, .inl f))]) [1] (by decide) rfl
    have hFc := va_free (wc := [(q, .inl (E.2.1 0, cap, .inl f))]) hD hS hA [1] rfl
    refine zcW (va_runS (As := [.ref q, .int (iI ((4 * cap : Nat) : Int))]) (rest := [.ref h]) S (c_Arrays_copyOf_BI l E s.heap.size q cap (4 * cap) f (fun i hi => hfit i hi) (by omega) (by omega)) ⟨zcwB (n := 2) S zw_356 zw_22 zw_354 (by decide +kernel) rfl rfl ⟨Nat.le_of_ble_eq_true rfl, Nat.le_of_ble_eq_true rfl⟩, S.2.2.2.2 _ zw_355⟩ (zPreS hE ⟨rfl, hPc, hDc.weaken (fun _ _ _ h => hA0 _ h), trivial⟩) rfl rfl hl.1 rfl (lv_room (Nat.le_of_ble_eq_true rfl)) d_Row_add_36 ⟨by (try dsimp only); omega, by (try dsimp only); omega⟩) hS (fun q _ h => hFc q h) hFc (fun v H locs hq hz1 hk1 hS => ?_)
    obtain ⟨q36, rfl, hP1, hD1⟩ := hq
    obtain ⟨hP, hD⟩ := va_join (wr := [(h, .inr (1, [.int (iI most), .ref q, .int (iI ((b.length : Nat) : Int))]))]) (w1 := [(q, .inl (E.2.1 0, cap, .inl f)), (q36, .inl (E.2.1 0, 4 * cap, .inl (va_cpy f (fun _ => 0) 0 0 cap)))]) hP hD [1] [0] rfl rfl (by decide) (by decide) hk1 hFc hP1 hD1
    have hP : va_P E.1 zcl [(h, .inr (1, [.int (iI most), .ref q, .int (iI ((b.length : Nat) : Int))])), (q, .inl (E.2.1 0, cap, .inl f)), (q36, .inl (E.2.1 0, 4 * cap, .inl (va_cpy f (fun _ => 0) 0 0 cap)))] H := hP
    have hD : va_D A [(h, .inr (1, [.int (iI most), .ref q, .int (iI ((b.length : Nat) : Int))])), (q, .inl (E.2.1 0, cap, .inl f)), (q36, .inl (E.2.1 0, 4 * cap, .inl (va_cpy f (fun _ => 0) 0 0 cap)))] := hD
    have hE := hE0.at hS hA0
    refine va_put (D := E.1) (ci := 1) (v := .ref q36) (ty := .array .byte) (C := "ReplacementWriter$Row") (T := F_Row) (N := 3) hx hb S.2.2.2.2 i_Row t_Row t_Row_ok n_Row S.2.2.2.1 hE.1 hP hD hS 0 rfl rfl 1 (by decide) (S.2.2.2.2 _ zw_55) (fun _ h9 => h9) rfl (by decide +kernel) rfl rfl (Nat.le_of_ble_eq_true rfl) d_Row_add_39 (fun H locs hP hD hS => ?_)
    have hP : va_P E.1 zcl [(h, .inr (1, [.int (iI most), .ref q36, .int (iI ((b.length : Nat) : Int))])), (q, .inl (E.2.1 0, cap, .inl f)), (q36, .inl (E.2.1 0, 4 * cap, .inl (va_cpy f (fun _ => 0) 0 0 cap)))] H := hP
    have hD : va_D A [(h, .inr (1, [.int (iI most), .ref q36, .int (iI ((b.length : Nat) : Int))])), (q, .inl (E.2.1 0, cap, .inl f)), (q36, .inl (E.2.1 0, 4 * cap, .inl (va_cpy f (fun _ => 0) 0 0 cap)))] := hD
    have hE := hE0.at hS hA0
    refine lv_aload_n hx hb d_Row_add_42 rfl (lv_at hl 0 rfl) ?_
    refine zgf S hE (ci := 1) rfl i_Row (hP 0 _ rfl) 1 (by decide) zw_55 rfl d_Row_add_43 ?_
    refine lv_aload_n hx hb d_Row_add_46 rfl (lv_at hl 0 rfl) ?_
    refine zgf S hE (ci := 1) rfl i_Row (hP 0 _ rfl) 2 (by decide) zw_56 rfl d_Row_add_47 ?_
    refine lv_iload_n hx hb d_Row_add_50 rfl (lv_at hl 1 rfl) ?_
    refine lv_i2b hx hb d_Row_add_51 rfl ?_
    refine zbast hx hb hE hP hD hS 2 rfl (by omega) (by omega) (by omega) d_Row_add_52 (fun H locs hP hD hS => ?_)
    have hP : va_P E.1 zcl [(h, .inr (1, [.int (iI most), .ref q36, .int (iI ((b.length : Nat) : Int))])), (q, .inl (E.2.1 0, cap, .inl f)), (q36, .inl (E.2.1 0, 4 * cap, .inl (upd (va_cpy f (fun _ => 0) 0 0 cap) (Int.toNat ((b.length : Nat) : Int)) (vp_nar .byte ((w).toInt8.toInt32)))))] H := hP
    have hD : va_D A [(h, .inr (1, [.int (iI most), .ref q36, .int (iI ((b.length : Nat) : Int))])), (q, .inl (E.2.1 0, cap, .inl f)), (q36, .inl (E.2.1 0, 4 * cap, .inl (upd (va_cpy f (fun _ => 0) 0 0 cap) (Int.toNat ((b.length : Nat) : Int)) (vp_nar .byte ((w).toInt8.toInt32)))))] := hD
    have hE := hE0.at hS hA0
    refine lv_aload_n hx hb d_Row_add_53 rfl (lv_at hl 0 rfl) ?_
    refine lv_dup hx hb d_Row_add_54 rfl ?_
    refine zgf S hE (ci := 1) rfl i_Row (hP 0 _ rfl) 2 (by decide) zw_56 rfl d_Row_add_55 ?_
    refine zi_iconst hx hb d_Row_add_58 ?_
    refine zi_iadd hx hb d_Row_add_59 ?_
    refine va_put (D := E.1) (ci := 1) (v := .int (iI (((b.length : Nat) : Int) + 1))) (ty := .int) (C := "ReplacementWriter$Row") (T := F_Row) (N := 3) hx hb S.2.2.2.2 i_Row t_Row t_Row_ok n_Row S.2.2.2.1 hE.1 hP hD hS 0 rfl rfl 2 (by decide) (S.2.2.2.2 _ zw_56) (fun _ h9 => h9) rfl (by decide +kernel) rfl rfl (Nat.le_of_ble_eq_true rfl) d_Row_add_60 (fun H locs hP hD hS => ?_)
    have hP : va_P E.1 zcl [(h, .inr (1, [.int (iI most), .ref q36, .int (iI (((b.length : Nat) : Int) + 1))])), (q, .inl (E.2.1 0, cap, .inl f)), (q36, .inl (E.2.1 0, 4 * cap, .inl (upd (va_cpy f (fun _ => 0) 0 0 cap) (Int.toNat ((b.length : Nat) : Int)) (vp_nar .byte ((w).toInt8.toInt32)))))] H := hP
    have hD : va_D A [(h, .inr (1, [.int (iI most), .ref q36, .int (iI (((b.length : Nat) : Int) + 1))])), (q, .inl (E.2.1 0, cap, .inl f)), (q36, .inl (E.2.1 0, 4 * cap, .inl (upd (va_cpy f (fun _ => 0) 0 0 cap) (Int.toNat ((b.length : Nat) : Int)) (vp_nar .byte ((w).toInt8.toInt32)))))] := hD
    have hE := hE0.at hS hA0
    rw [show ((b.length : Nat) : Int) + 1 = (((b ++ [n]).length : Nat) : Int) by simp] at hP hD
    exact zwv S hr hlk hS (⟨rfl, q36, _, hP.sub (ws' := [(h, .inr (1, [.int (iI most), .ref q36, .int (iI (((b ++ [n]).length : Nat) : Int))])), (q36, .inl (E.2.1 0, 4 * cap, .inl (upd (va_cpy f (fun _ => 0) 0 0 cap) (Int.toNat ((b.length : Nat) : Int)) (vp_nar .byte ((w).toInt8.toInt32)))))]) [0, 2] rfl, hD.sub (ws' := [(h, .inr (1, [.int (iI most), .ref q36, .int (iI (((b ++ [n]).length : Nat) : Int))])), (q36, .inl (E.2.1 0, 4 * cap, .inl (upd (va_cpy f (fun _ => 0) 0 0 cap) (Int.toNat ((b.length : Nat) : Int)) (vp_nar .byte ((w).toInt8.toInt32)))))]) [0, 2] (by decide) rfl, by rw [Int.toNat_natCast]; exact zbytes_push hB2 (by omega) hn (by rw [sb_nar, hw]), zfit_upd hF2 (by rw [sb_nar, hw]; exact sb_fitB n)⟩) (by (try dsimp only); omega) (by (try dsimp only); omega) d_Row_add_63
end
section
set_option maxRecDepth 100000 in
set_option maxHeartbeats 4000000 in
theorem c_Cases_isUpperOf (l : Launch) (E : zP) (r : Nat) (x : Int) (hr18 : r < 18) (hx0 : -100000 ≤ x) (hx1 : x < 10000000) : Met l y_Cases_isUpperOf (.code y_Cases_isUpperOf b_Cases_isUpperOf 4 ( some FieldType.boolean ) :: zw) { frames := 0, cells := 0, slots := 0, locals := 0 } (zPc E [.int (iI ((5 * r : Nat) : Int)), .int (iI x)] (fun _ => True)) (zR (some (.int (iI (bN (sp_isUp (sp_row r) x)))))) 0 0 (fun _ => False) := by
  refine zMet (by decide) (Nat.le_of_ble_eq_true rfl) ?_
  intro p e s m below meth c ls S hr hlk hnm hE hp hl
  have hx := S.1
  have hb := S.2.1
  have hl : lv_has ls 4 [(0, .int (iI ((5 * r : Nat) : Int))), (1, .int (iI x))] := hl
  have hrr := sp_row_r ⟨r, hr18⟩
  dsimp only at hrr
  refine zgs S hE.pairs zw_139 d_Cases_isUpperOf_0 ?_
  refine lv_iload_n hx hb d_Cases_isUpperOf_3 rfl (lv_at hl 0 rfl) ?_
  refine zti (v := .int (iI (sp_row r).1)) hx hb hE.pairsT (by omega) (by omega) (by omega) (by rw [show Int.toNat ((5 * r : Nat) : Int) = 5 * r by omega, (zpairs_row ⟨r, hr18⟩).1]) d_Cases_isUpperOf_4 ?_
  refine lv_istore_n (lv' := [(2, .int (iI ((sp_row r).1))), (0, .int (iI ((5 * r : Nat) : Int))), (1, .int (iI x))]) hx hb d_Cases_isUpperOf_5 rfl hl (by decide) rfl (fun ls hl => ?_)
  refine zgs S hE.pairs zw_139 d_Cases_isUpperOf_6 ?_
  refine lv_iload_n hx hb d_Cases_isUpperOf_9 rfl (lv_at hl 1 rfl) ?_
  refine zi_iconst hx hb d_Cases_isUpperOf_10 ?_
  refine zi_iadd hx hb d_Cases_isUpperOf_11 ?_
  refine zti (v := .int (iI (sp_row r).2.2.1)) hx hb hE.pairsT (by omega) (by omega) (by omega) (by rw [show Int.toNat (((5 * r : Nat) : Int) + 2) = 5 * r + 2 by omega, (zpairs_row ⟨r, hr18⟩).2.2.1]) d_Cases_isUpperOf_12 ?_
  refine zi_iconst hx hb d_Cases_isUpperOf_13 ?_
  refine zi_icmp_ne hx hb d_Cases_isUpperOf_14 rfl (by omega) (by omega) (fun h14 => ?_) (fun h14 => ?_)
  · refine zi_iconst hx hb d_Cases_isUpperOf_29 ?_
    refine lv_istore_n (lv' := [(3, .int (iI 0)), (2, .int (iI ((sp_row r).1))), (0, .int (iI ((5 * r : Nat) : Int))), (1, .int (iI x))]) hx hb d_Cases_isUpperOf_30 rfl hl (by decide) rfl (fun ls hl => ?_)
    refine lv_iload_n hx hb d_Cases_isUpperOf_31 rfl (lv_at hl 3 rfl) ?_
    refine lv_iload_n hx hb d_Cases_isUpperOf_32 rfl (lv_at hl 1 rfl) ?_
    refine zi_icmp_lt hx hb d_Cases_isUpperOf_33 rfl (by omega) (by omega) (fun h33 => ?_) (fun h33 => ?_)
    · refine zi_iconst hx hb d_Cases_isUpperOf_55 ?_
      exact zretZ (b := false) S hr hlk d_Cases_isUpperOf_56 (by refine Eq.symm ?_; unfold sp_isUp; first | exact decide_eq_true (by omega) | exact decide_eq_false (by omega))
    · refine lv_iload_n hx hb d_Cases_isUpperOf_36 rfl (lv_at hl 3 rfl) ?_
      refine zgs S hE.pairs zw_139 d_Cases_isUpperOf_37 ?_
      refine lv_iload_n hx hb d_Cases_isUpperOf_40 rfl (lv_at hl 2 rfl) ?_
      refine zi_iconst hx hb d_Cases_isUpperOf_41 ?_
      refine zi_iadd hx hb d_Cases_isUpperOf_42 ?_
      refine zti (v := .int (iI (sp_row r).2.1)) hx hb hE.pairsT (by omega) (by omega) (by omega) (by rw [show Int.toNat (((5 * r : Nat) : Int) + 1) = 5 * r + 1 by omega, (zpairs_row ⟨r, hr18⟩).2.1]) d_Cases_isUpperOf_43 ?_
      refine zi_icmp_gt hx hb d_Cases_isUpperOf_44 rfl (by omega) (by omega) (fun h44 => ?_) (fun h44 => ?_)
      · refine zi_iconst hx hb d_Cases_isUpperOf_55 ?_
        exact zretZ (b := false) S hr hlk d_Cases_isUpperOf_56 (by refine Eq.symm ?_; unfold sp_isUp; first | exact decide_eq_true (by omega) | exact decide_eq_false (by omega))
      · refine lv_iload_n hx hb d_Cases_isUpperOf_47 rfl (lv_at hl 0 rfl) ?_
        refine zi_if_ne hx hb d_Cases_isUpperOf_48 rfl (by omega) (fun h48 => absurd h48 (by omega)) (fun h48 => ?_)
        refine zi_iconst hx hb d_Cases_isUpperOf_51 ?_
        refine lv_goto hx hb d_Cases_isUpperOf_52 rfl ?_
        exact zretZ (b := true) S hr hlk d_Cases_isUpperOf_56 (by refine Eq.symm ?_; unfold sp_isUp; first | exact decide_eq_true (by omega) | exact decide_eq_false (by omega))
  · refine lv_iload_n hx hb d_Cases_isUpperOf_17 rfl (lv_at hl 2 rfl) ?_
    refine lv_iload_n hx hb d_Cases_isUpperOf_18 rfl (lv_at hl 0 rfl) ?_
    refine zi_isub hx hb d_Cases_isUpperOf_19 ?_
    refine zi_iconst hx hb d_Cases_isUpperOf_20 ?_
    refine zi_iand hx hb d_Cases_isUpperOf_21 (iI_mask1 _) ?_
    refine zi_if_eq hx hb d_Cases_isUpperOf_22 rfl (by omega) (fun h22 => ?_) (fun h22 => ?_)
    · refine zi_iconst hx hb d_Cases_isUpperOf_29 ?_
      refine lv_istore_n (lv' := [(3, .int (iI 0)), (2, .int (iI ((sp_row r).1))), (0, .int (iI ((5 * r : Nat) : Int))), (1, .int (iI x))]) hx hb d_Cases_isUpperOf_30 rfl hl (by decide) rfl (fun ls hl => ?_)
      refine lv_iload_n hx hb d_Cases_isUpperOf_31 rfl (lv_at hl 3 rfl) ?_
      refine lv_iload_n hx hb d_Cases_isUpperOf_32 rfl (lv_at hl 1 rfl) ?_
      refine zi_icmp_lt hx hb d_Cases_isUpperOf_33 rfl (by omega) (by omega) (fun h33 => ?_) (fun h33 => ?_)
      · refine zi_iconst hx hb d_Cases_isUpperOf_55 ?_
        exact zretZ (b := false) S hr hlk d_Cases_isUpperOf_56 (by refine Eq.symm ?_; unfold sp_isUp; first | exact decide_eq_true (by omega) | exact decide_eq_false (by omega))
      · refine lv_iload_n hx hb d_Cases_isUpperOf_36 rfl (lv_at hl 3 rfl) ?_
        refine zgs S hE.pairs zw_139 d_Cases_isUpperOf_37 ?_
        refine lv_iload_n hx hb d_Cases_isUpperOf_40 rfl (lv_at hl 2 rfl) ?_
        refine zi_iconst hx hb d_Cases_isUpperOf_41 ?_
        refine zi_iadd hx hb d_Cases_isUpperOf_42 ?_
        refine zti (v := .int (iI (sp_row r).2.1)) hx hb hE.pairsT (by omega) (by omega) (by omega) (by rw [show Int.toNat (((5 * r : Nat) : Int) + 1) = 5 * r + 1 by omega, (zpairs_row ⟨r, hr18⟩).2.1]) d_Cases_isUpperOf_43 ?_
        refine zi_icmp_gt hx hb d_Cases_isUpperOf_44 rfl (by omega) (by omega) (fun h44 => ?_) (fun h44 => ?_)
        · refine zi_iconst hx hb d_Cases_isUpperOf_55 ?_
          exact zretZ (b := false) S hr hlk d_Cases_isUpperOf_56 (by refine Eq.symm ?_; unfold sp_isUp; first | exact decide_eq_true (by omega) | exact decide_eq_false (by omega))
        · refine lv_iload_n hx hb d_Cases_isUpperOf_47 rfl (lv_at hl 0 rfl) ?_
          refine zi_if_ne hx hb d_Cases_isUpperOf_48 rfl (by omega) (fun h48 => absurd h48 (by omega)) (fun h48 => ?_)
          refine zi_iconst hx hb d_Cases_isUpperOf_51 ?_
          refine lv_goto hx hb d_Cases_isUpperOf_52 rfl ?_
          exact zretZ (b := true) S hr hlk d_Cases_isUpperOf_56 (by refine Eq.symm ?_; unfold sp_isUp; first | exact decide_eq_true (by omega) | exact decide_eq_false (by omega))
    · refine zi_iconst hx hb d_Cases_isUpperOf_25 ?_
      refine lv_goto hx hb d_Cases_isUpperOf_26 rfl ?_
      refine lv_istore_n (lv' := [(3, .int (iI 1)), (2, .int (iI ((sp_row r).1))), (0, .int (iI ((5 * r : Nat) : Int))), (1, .int (iI x))]) hx hb d_Cases_isUpperOf_30 rfl hl (by decide) rfl (fun ls hl => ?_)
      refine lv_iload_n hx hb d_Cases_isUpperOf_31 rfl (lv_at hl 3 rfl) ?_
      refine lv_iload_n hx hb d_Cases_isUpperOf_32 rfl (lv_at hl 1 rfl) ?_
      refine zi_icmp_lt hx hb d_Cases_isUpperOf_33 rfl (by omega) (by omega) (fun h33 => ?_) (fun h33 => ?_)
      · refine zi_iconst hx hb d_Cases_isUpperOf_55 ?_
        exact zretZ (b := false) S hr hlk d_Cases_isUpperOf_56 (by refine Eq.symm ?_; unfold sp_isUp; first | exact decide_eq_true (by omega) | exact decide_eq_false (by omega))
      · refine lv_iload_n hx hb d_Cases_isUpperOf_36 rfl (lv_at hl 3 rfl) ?_
        refine zgs S hE.pairs zw_139 d_Cases_isUpperOf_37 ?_
        refine lv_iload_n hx hb d_Cases_isUpperOf_40 rfl (lv_at hl 2 rfl) ?_
        refine zi_iconst hx hb d_Cases_isUpperOf_41 ?_
        refine zi_iadd hx hb d_Cases_isUpperOf_42 ?_
        refine zti (v := .int (iI (sp_row r).2.1)) hx hb hE.pairsT (by omega) (by omega) (by omega) (by rw [show Int.toNat (((5 * r : Nat) : Int) + 1) = 5 * r + 1 by omega, (zpairs_row ⟨r, hr18⟩).2.1]) d_Cases_isUpperOf_43 ?_
        refine zi_icmp_gt hx hb d_Cases_isUpperOf_44 rfl (by omega) (by omega) (fun h44 => ?_) (fun h44 => ?_)
        · refine zi_iconst hx hb d_Cases_isUpperOf_55 ?_
          exact zretZ (b := false) S hr hlk d_Cases_isUpperOf_56 (by refine Eq.symm ?_; unfold sp_isUp; first | exact decide_eq_true (by omega) | exact decide_eq_false (by omega))
        · refine lv_iload_n hx hb d_Cases_isUpperOf_47 rfl (lv_at hl 0 rfl) ?_
          refine zi_if_ne hx hb d_Cases_isUpperOf_48 rfl (by omega) (fun h48 => ?_) (fun h48 => absurd h48 (by omega))
          refine zi_iconst hx hb d_Cases_isUpperOf_55 ?_
          exact zretZ (b := false) S hr hlk d_Cases_isUpperOf_56 (by refine Eq.symm ?_; unfold sp_isUp; first | exact decide_eq_true (by omega) | exact decide_eq_false (by omega))

set_option maxRecDepth 100000 in
set_option maxHeartbeats 4000000 in
theorem c_Cases_turned (l : Launch) (E : zP) (h mr c0 how : Nat) (hm : mr ≤ 18) (hc0 : c0 < 2097152) (hh : how ≤ 2) : Met l y_Cases_turned (.code y_Cases_turned b_Cases_turned 8 ( some FieldType.int ) :: zw) { frames := 1, cells := 0, slots := 0, locals := 23 } (zPc E [.ref h, .int (iI ((c0 : Nat) : Int)), .ref (E.2.2.1 (how + 1))] (zO E 3 h [.int (iI ((5 * mr : Nat) : Int))])) (zR (some (.int (iI (if how = 0 then (c0 : Int) else sp_find (decide (how = 1)) (c0 : Int) (sp_rows.take mr)))))) 0 0 (fun _ => False) := by
  refine zMet (by decide) (Nat.le_of_ble_eq_true rfl) ?_
  intro p e s m below meth c ls S hr hlk hnm hE hp hl
  have hx := S.1
  have hb := S.2.1
  have hl : lv_has ls 8 [(0, .ref h), (1, .int (iI ((c0 : Nat) : Int))), (2, .ref (E.2.2.1 (how + 1)))] := hl
  refine lv_aload_n hx hb d_Cases_turned_0 rfl (lv_at hl 2 rfl) ?_
  refine zgs S hE.asis zw_676 d_Cases_turned_1 ?_
  refine zacmp_ne hx hb d_Cases_turned_4 rfl (fun h4 => ?_) (fun h4 => ?_)
  · have hh0 : how ≠ 0 := fun q => h4 (by rw [q])
    refine lv_aload_n hx hb d_Cases_turned_9 rfl (lv_at hl 2 rfl) ?_
    refine zgs S hE.upper zw_677 d_Cases_turned_10 ?_
    refine zacmp_ne hx hb d_Cases_turned_13 rfl (fun h13 => ?_) (fun h13 => ?_)
    · have hh1 : how ≠ 1 := fun q => h13 (by rw [q])
      refine zi_iconst hx hb d_Cases_turned_20 ?_
      refine lv_istore_n (lv' := [(3, .int (iI 0)), (0, .ref h), (1, .int (iI ((c0 : Nat) : Int))), (2, .ref (E.2.2.1 (how + 1)))]) hx hb d_Cases_turned_21 rfl hl (by decide) rfl (fun ls hl => ?_)
      refine lv_iload_n hx hb d_Cases_turned_22 rfl (lv_at hl 0 rfl) ?_
      refine zi_if_eq hx hb d_Cases_turned_23 rfl (by omega) (fun h23 => ?_) (fun h23 => absurd h23 (by omega))
      refine zi_iconst hx hb d_Cases_turned_30 ?_
      refine lv_istore (lv' := [(4, .int (iI 1)), (3, .int (iI 0)), (0, .ref h), (1, .int (iI ((c0 : Nat) : Int))), (2, .ref (E.2.2.1 (how + 1)))]) hx hb d_Cases_turned_31 hl (by decide) rfl (fun ls hl => ?_)
      refine zi_iconst hx hb d_Cases_turned_33 ?_
      refine lv_istore (lv' := [(5, .int (iI 0)), (4, .int (iI 1)), (3, .int (iI 0)), (0, .ref h), (1, .int (iI ((c0 : Nat) : Int))), (2, .ref (E.2.2.1 (how + 1)))]) hx hb d_Cases_turned_34 hl (by decide) rfl (fun ls hl => ?_)
      have key : ∃ (r : Nat), (r ≤ mr ∧ sp_find false (c0 : Int) ((sp_rows.take mr).drop r) = sp_find false (c0 : Int) (sp_rows.take mr)) ∧ lv_has ls 8 [(5, .int (iI ((5 * r : Nat) : Int))), (4, .int (iI 1)), (3, .int (iI 0)), (0, .ref h), (1, .int (iI ((c0 : Nat) : Int))), (2, .ref (E.2.2.1 (how + 1)))] := ⟨0, ⟨by omega, by simp⟩, hl⟩
      clear hl
      obtain ⟨r, hinv, hl⟩ := key
      obtain ⟨n, hn⟩ : ∃ n : Nat, mr - r < n := ⟨_, Nat.lt_succ_self _⟩
      induction n generalizing r ls with
      | zero => exact absurd hn (Nat.not_lt_zero _)
      | succ n ih =>
        obtain ⟨h1, h2⟩ := hinv
        refine lv_iload hx hb d_Cases_turned_36 (lv_at hl 0 rfl) ?_
        refine lv_aload_n hx hb d_Cases_turned_38 rfl (lv_at hl 3 rfl) ?_
        refine zgf S hE (ci := 3) rfl i_Cases hp 0 (by decide) zw_141 rfl d_Cases_turned_39 ?_
        refine zi_icmp_ge hx hb d_Cases_turned_42 rfl (by omega) (by omega) (fun h42 => ?_) (fun h42 => ?_)
        · refine lv_iload_n hx hb d_Cases_turned_113 rfl (lv_at hl 4 rfl) ?_
          exact zretI S hr hlk d_Cases_turned_114 (congrArg iI (by rw [if_neg (by omega), show decide (how = 1) = false by simp; omega, ← h2, sp_find_end _ _ (by omega)]))
        · have hrm : r < mr := by omega
          have hr18 : r < 18 := by omega
          have hrr := sp_row_r ⟨r, hr18⟩
          dsimp only at hrr
          refine zgs S hE.pairs zw_139 d_Cases_turned_45 ?_
          refine lv_iload hx hb d_Cases_turned_48 (lv_at hl 0 rfl) ?_
          refine zi_iconst hx hb d_Cases_turned_50 ?_
          refine zi_iadd hx hb d_Cases_turned_51 ?_
          refine zti (v := .int (iI (sp_row r).2.2.2.1)) hx hb hE.pairsT (by omega) (by omega) (by omega) (by rw [show Int.toNat (((5 * r : Nat) : Int) + 3) = 5 * r + 3 by omega, (zpairs_row ⟨r, hr18⟩).2.2.2.1]) d_Cases_turned_52 ?_
          refine lv_istore (lv' := [(6, .int (iI ((sp_row r).2.2.2.1))), (5, .int (iI ((5 * r : Nat) : Int))), (4, .int (iI 1)), (3, .int (iI 0)), (0, .ref h), (1, .int (iI ((c0 : Nat) : Int))), (2, .ref (E.2.2.1 (how + 1)))]) hx hb d_Cases_turned_53 hl (by decide) rfl (fun ls hl => ?_)
          refine lv_iload_n hx hb d_Cases_turned_55 rfl (lv_at hl 3 rfl) ?_
          refine zi_if_eq hx hb d_Cases_turned_56 rfl (by omega) (fun h56 => ?_) (fun h56 => absurd h56 (by omega))
          refine lv_iload_n hx hb d_Cases_turned_66 rfl (lv_at hl 5 rfl) ?_
          refine lv_istore (lv' := [(7, .int (iI ((c0 : Nat) : Int))), (6, .int (iI ((sp_row r).2.2.2.1))), (5, .int (iI ((5 * r : Nat) : Int))), (4, .int (iI 1)), (3, .int (iI 0)), (0, .ref h), (1, .int (iI ((c0 : Nat) : Int))), (2, .ref (E.2.2.1 (how + 1)))]) hx hb d_Cases_turned_67 hl (by decide) rfl (fun ls hl => ?_)
          refine zgs S hE.pairs zw_139 d_Cases_turned_69 ?_
          refine lv_iload hx hb d_Cases_turned_72 (lv_at hl 2 rfl) ?_
          refine zi_iconst hx hb d_Cases_turned_74 ?_
          refine zi_iadd hx hb d_Cases_turned_75 ?_
          refine zti (v := .int (iI (sp_row r).2.2.2.2)) hx hb hE.pairsT (by omega) (by omega) (by omega) (by rw [show Int.toNat (((5 * r : Nat) : Int) + 4) = 5 * r + 4 by omega, (zpairs_row ⟨r, hr18⟩).2.2.2.2]) d_Cases_turned_76 ?_
          refine lv_iload hx hb d_Cases_turned_77 (lv_at hl 3 rfl) ?_
          refine zi_icmp_eq hx hb d_Cases_turned_79 rfl (by omega) (by omega) (fun h79 => ?_) (fun h79 => ?_)
          · skip
            refine lv_iinc (k := 2) (v := iI ((5 * (r + 1) : Nat) : Int)) (lv' := [(5, .int (iI ((5 * (r + 1) : Nat) : Int))), (7, .int (iI ((c0 : Nat) : Int))), (6, .int (iI ((sp_row r).2.2.2.1))), (4, .int (iI 1)), (3, .int (iI 0)), (0, .ref h), (1, .int (iI ((c0 : Nat) : Int))), (2, .ref (E.2.2.1 (how + 1)))]) hx hb d_Cases_turned_107 hl rfl (by rw [show Int32.ofInt 5 = iI 5 from rfl, iI_add]; congr 1) (by decide) rfl (fun ls hl => ?_)
            refine lv_goto hx hb d_Cases_turned_110 rfl ?_
            exact ih ls (r + 1) (⟨by omega, by rw [← h2, sp_find_step false _ hrm (by omega), if_neg (by simp; intro hq; exact absurd h79 hq)]⟩) (lv_sub hl [0, 3, 4, 5, 6, 7] rfl) (by omega)
          · skip
            refine lv_iload hx hb d_Cases_turned_82 (lv_at hl 2 rfl) ?_
            refine lv_iload hx hb d_Cases_turned_84 (lv_at hl 0 rfl) ?_
            refine zcR (va_runS (As := [.int (iI ((5 * r : Nat) : Int)), .int (iI ((c0 : Nat) : Int))]) (rest := []) S (c_Cases_isUpperOf l E r ((c0 : Nat) : Int) hr18 (by omega) (by omega)) ⟨zcwB (n := 2) S zw_681 zw_9 zw_679 (by decide +kernel) rfl rfl ⟨Nat.le_of_ble_eq_true rfl, Nat.le_of_ble_eq_true rfl⟩, S.2.2.2.2 _ zw_680⟩ (zPreS hE trivial) rfl rfl hl.1 rfl (lv_room (Nat.le_of_ble_eq_true rfl)) d_Cases_turned_86 ⟨Nat.zero_le _, Nat.zero_le _⟩) ?_
            refine zb_ifeq hx hb d_Cases_turned_89 rfl (fun h89 => ?_) (fun h89 => ?_)
            · refine lv_iinc (k := 2) (v := iI ((5 * (r + 1) : Nat) : Int)) (lv' := [(5, .int (iI ((5 * (r + 1) : Nat) : Int))), (7, .int (iI ((c0 : Nat) : Int))), (6, .int (iI ((sp_row r).2.2.2.1))), (4, .int (iI 1)), (3, .int (iI 0)), (0, .ref h), (1, .int (iI ((c0 : Nat) : Int))), (2, .ref (E.2.2.1 (how + 1)))]) hx hb d_Cases_turned_107 hl rfl (by rw [show Int32.ofInt 5 = iI 5 from rfl, iI_add]; congr 1) (by decide) rfl (fun ls hl => ?_)
              refine lv_goto hx hb d_Cases_turned_110 rfl ?_
              exact ih ls (r + 1) (⟨by omega, by rw [← h2, sp_find_step false _ hrm (by omega), if_neg (by simp; intro hq; exact h89)]⟩) (lv_sub hl [0, 3, 4, 5, 6, 7] rfl) (by omega)
            · refine lv_iload_n hx hb d_Cases_turned_92 rfl (lv_at hl 4 rfl) ?_
              refine zi_if_eq hx hb d_Cases_turned_93 rfl (by omega) (fun h93 => ?_) (fun h93 => absurd h93 (by omega))
              refine lv_iload hx hb d_Cases_turned_101 (lv_at hl 0 rfl) ?_
              refine lv_iload hx hb d_Cases_turned_103 (lv_at hl 1 rfl) ?_
              refine zi_iadd hx hb d_Cases_turned_105 ?_
              exact zretI S hr hlk d_Cases_turned_106 (congrArg iI (by rw [if_neg (by omega), show decide (how = 1) = false by simp; omega, ← h2, sp_find_step false _ hrm (by omega), if_pos (by simp; exact ⟨h79, h89⟩)]; rfl))
    · have hh1 : how = 1 := by have := (hE.turns hh (b := 1) (by omega)).mp h13; omega
      refine zi_iconst hx hb d_Cases_turned_16 ?_
      refine lv_goto hx hb d_Cases_turned_17 rfl ?_
      refine lv_istore_n (lv' := [(3, .int (iI 1)), (0, .ref h), (1, .int (iI ((c0 : Nat) : Int))), (2, .ref (E.2.2.1 (how + 1)))]) hx hb d_Cases_turned_21 rfl hl (by decide) rfl (fun ls hl => ?_)
      refine lv_iload_n hx hb d_Cases_turned_22 rfl (lv_at hl 0 rfl) ?_
      refine zi_if_eq hx hb d_Cases_turned_23 rfl (by omega) (fun h23 => absurd h23 (by omega)) (fun h23 => ?_)
      refine zi_iconst hx hb d_Cases_turned_26 ?_
      refine lv_goto hx hb d_Cases_turned_27 rfl ?_
      refine lv_istore (lv' := [(4, .int (iI 2)), (3, .int (iI 1)), (0, .ref h), (1, .int (iI ((c0 : Nat) : Int))), (2, .ref (E.2.2.1 (how + 1)))]) hx hb d_Cases_turned_31 hl (by decide) rfl (fun ls hl => ?_)
      refine zi_iconst hx hb d_Cases_turned_33 ?_
      refine lv_istore (lv' := [(5, .int (iI 0)), (4, .int (iI 2)), (3, .int (iI 1)), (0, .ref h), (1, .int (iI ((c0 : Nat) : Int))), (2, .ref (E.2.2.1 (how + 1)))]) hx hb d_Cases_turned_34 hl (by decide) rfl (fun ls hl => ?_)
      have key : ∃ (r : Nat), (r ≤ mr ∧ sp_find true (c0 : Int) ((sp_rows.take mr).drop r) = sp_find true (c0 : Int) (sp_rows.take mr)) ∧ lv_has ls 8 [(5, .int (iI ((5 * r : Nat) : Int))), (4, .int (iI 2)), (3, .int (iI 1)), (0, .ref h), (1, .int (iI ((c0 : Nat) : Int))), (2, .ref (E.2.2.1 (how + 1)))] := ⟨0, ⟨by omega, by simp⟩, hl⟩
      clear hl
      obtain ⟨r, hinv, hl⟩ := key
      obtain ⟨n, hn⟩ : ∃ n : Nat, mr - r < n := ⟨_, Nat.lt_succ_self _⟩
      induction n generalizing r ls with
      | zero => exact absurd hn (Nat.not_lt_zero _)
      | succ n ih =>
        obtain ⟨h1, h2⟩ := hinv
        refine lv_iload hx hb d_Cases_turned_36 (lv_at hl 0 rfl) ?_
        refine lv_aload_n hx hb d_Cases_turned_38 rfl (lv_at hl 3 rfl) ?_
        refine zgf S hE (ci := 3) rfl i_Cases hp 0 (by decide) zw_141 rfl d_Cases_turned_39 ?_
        refine zi_icmp_ge hx hb d_Cases_turned_42 rfl (by omega) (by omega) (fun h42 => ?_) (fun h42 => ?_)
        · refine lv_iload_n hx hb d_Cases_turned_113 rfl (lv_at hl 4 rfl) ?_
          exact zretI S hr hlk d_Cases_turned_114 (congrArg iI (by rw [if_neg (by omega), show decide (how = 1) = true by simp; omega, ← h2, sp_find_end _ _ (by omega)]))
        · have hrm : r < mr := by omega
          have hr18 : r < 18 := by omega
          have hrr := sp_row_r ⟨r, hr18⟩
          dsimp only at hrr
          refine zgs S hE.pairs zw_139 d_Cases_turned_45 ?_
          refine lv_iload hx hb d_Cases_turned_48 (lv_at hl 0 rfl) ?_
          refine zi_iconst hx hb d_Cases_turned_50 ?_
          refine zi_iadd hx hb d_Cases_turned_51 ?_
          refine zti (v := .int (iI (sp_row r).2.2.2.1)) hx hb hE.pairsT (by omega) (by omega) (by omega) (by rw [show Int.toNat (((5 * r : Nat) : Int) + 3) = 5 * r + 3 by omega, (zpairs_row ⟨r, hr18⟩).2.2.2.1]) d_Cases_turned_52 ?_
          refine lv_istore (lv' := [(6, .int (iI ((sp_row r).2.2.2.1))), (5, .int (iI ((5 * r : Nat) : Int))), (4, .int (iI 2)), (3, .int (iI 1)), (0, .ref h), (1, .int (iI ((c0 : Nat) : Int))), (2, .ref (E.2.2.1 (how + 1)))]) hx hb d_Cases_turned_53 hl (by decide) rfl (fun ls hl => ?_)
          refine lv_iload_n hx hb d_Cases_turned_55 rfl (lv_at hl 3 rfl) ?_
          refine zi_if_eq hx hb d_Cases_turned_56 rfl (by omega) (fun h56 => absurd h56 (by omega)) (fun h56 => ?_)
          refine lv_iload_n hx hb d_Cases_turned_59 rfl (lv_at hl 5 rfl) ?_
          refine lv_iload hx hb d_Cases_turned_60 (lv_at hl 0 rfl) ?_
          refine zi_isub hx hb d_Cases_turned_62 ?_
          refine lv_goto hx hb d_Cases_turned_63 rfl ?_
          refine lv_istore (lv' := [(7, .int (iI (((c0 : Nat) : Int) - ((sp_row r).2.2.2.1)))), (6, .int (iI ((sp_row r).2.2.2.1))), (5, .int (iI ((5 * r : Nat) : Int))), (4, .int (iI 2)), (3, .int (iI 1)), (0, .ref h), (1, .int (iI ((c0 : Nat) : Int))), (2, .ref (E.2.2.1 (how + 1)))]) hx hb d_Cases_turned_67 hl (by decide) rfl (fun ls hl => ?_)
          refine zgs S hE.pairs zw_139 d_Cases_turned_69 ?_
          refine lv_iload hx hb d_Cases_turned_72 (lv_at hl 2 rfl) ?_
          refine zi_iconst hx hb d_Cases_turned_74 ?_
          refine zi_iadd hx hb d_Cases_turned_75 ?_
          refine zti (v := .int (iI (sp_row r).2.2.2.2)) hx hb hE.pairsT (by omega) (by omega) (by omega) (by rw [show Int.toNat (((5 * r : Nat) : Int) + 4) = 5 * r + 4 by omega, (zpairs_row ⟨r, hr18⟩).2.2.2.2]) d_Cases_turned_76 ?_
          refine lv_iload hx hb d_Cases_turned_77 (lv_at hl 3 rfl) ?_
          refine zi_icmp_eq hx hb d_Cases_turned_79 rfl (by omega) (by omega) (fun h79 => ?_) (fun h79 => ?_)
          · skip
            refine lv_iinc (k := 2) (v := iI ((5 * (r + 1) : Nat) : Int)) (lv' := [(5, .int (iI ((5 * (r + 1) : Nat) : Int))), (7, .int (iI (((c0 : Nat) : Int) - ((sp_row r).2.2.2.1)))), (6, .int (iI ((sp_row r).2.2.2.1))), (4, .int (iI 2)), (3, .int (iI 1)), (0, .ref h), (1, .int (iI ((c0 : Nat) : Int))), (2, .ref (E.2.2.1 (how + 1)))]) hx hb d_Cases_turned_107 hl rfl (by rw [show Int32.ofInt 5 = iI 5 from rfl, iI_add]; congr 1) (by decide) rfl (fun ls hl => ?_)
            refine lv_goto hx hb d_Cases_turned_110 rfl ?_
            exact ih ls (r + 1) (⟨by omega, by rw [← h2, sp_find_step true _ hrm (by omega), if_neg (by simp; intro hq; exact absurd h79 hq)]⟩) (lv_sub hl [0, 3, 4, 5, 6, 7] rfl) (by omega)
          · skip
            refine lv_iload hx hb d_Cases_turned_82 (lv_at hl 2 rfl) ?_
            refine lv_iload hx hb d_Cases_turned_84 (lv_at hl 0 rfl) ?_
            refine zcR (va_runS (As := [.int (iI ((5 * r : Nat) : Int)), .int (iI (((c0 : Nat) : Int) - ((sp_row r).2.2.2.1)))]) (rest := []) S (c_Cases_isUpperOf l E r (((c0 : Nat) : Int) - ((sp_row r).2.2.2.1)) hr18 (by omega) (by omega)) ⟨zcwB (n := 2) S zw_681 zw_9 zw_679 (by decide +kernel) rfl rfl ⟨Nat.le_of_ble_eq_true rfl, Nat.le_of_ble_eq_true rfl⟩, S.2.2.2.2 _ zw_680⟩ (zPreS hE trivial) rfl rfl hl.1 rfl (lv_room (Nat.le_of_ble_eq_true rfl)) d_Cases_turned_86 ⟨Nat.zero_le _, Nat.zero_le _⟩) ?_
            refine zb_ifeq hx hb d_Cases_turned_89 rfl (fun h89 => ?_) (fun h89 => ?_)
            · refine lv_iinc (k := 2) (v := iI ((5 * (r + 1) : Nat) : Int)) (lv' := [(5, .int (iI ((5 * (r + 1) : Nat) : Int))), (7, .int (iI (((c0 : Nat) : Int) - ((sp_row r).2.2.2.1)))), (6, .int (iI ((sp_row r).2.2.2.1))), (4, .int (iI 2)), (3, .int (iI 1)), (0, .ref h), (1, .int (iI ((c0 : Nat) : Int))), (2, .ref (E.2.2.1 (how + 1)))]) hx hb d_Cases_turned_107 hl rfl (by rw [show Int32.ofInt 5 = iI 5 from rfl, iI_add]; congr 1) (by decide) rfl (fun ls hl => ?_)
              refine lv_goto hx hb d_Cases_turned_110 rfl ?_
              exact ih ls (r + 1) (⟨by omega, by rw [← h2, sp_find_step true _ hrm (by omega), if_neg (by simp; intro hq; exact h89)]⟩) (lv_sub hl [0, 3, 4, 5, 6, 7] rfl) (by omega)
            · refine lv_iload_n hx hb d_Cases_turned_92 rfl (lv_at hl 4 rfl) ?_
              refine zi_if_eq hx hb d_Cases_turned_93 rfl (by omega) (fun h93 => absurd h93 (by omega)) (fun h93 => ?_)
              refine lv_iload hx hb d_Cases_turned_96 (lv_at hl 0 rfl) ?_
              refine lv_goto hx hb d_Cases_turned_98 rfl ?_
              exact zretI S hr hlk d_Cases_turned_106 (congrArg iI (by rw [if_neg (by omega), show decide (how = 1) = true by simp; omega, ← h2, sp_find_step true _ hrm (by omega), if_pos (by simp; exact ⟨h79, h89⟩)]; rfl))
  · refine lv_iload_n hx hb d_Cases_turned_7 rfl (lv_at hl 1 rfl) ?_
    exact zretI S hr hlk d_Cases_turned_8 (congrArg iI (by rw [if_pos (by have := (hE.turns hh (b := 0) (by omega)).mp h4; omega)]))
end
section
set_option maxRecDepth 100000 in
set_option maxHeartbeats 4000000 in
theorem c_Output_turnFromHere (l : Launch) (E : zP) (sz : Nat) (h : Nat) (e1 e2 e3 : Nat) (x y z : Nat) (fl : Bool) : Met l y_Output_turnFromHere (.code y_Output_turnFromHere b_Output_turnFromHere 2 ( Option.none : Option FieldType ) :: zw) { frames := 0, cells := (0), slots := (0), locals := 0 } (zPc E [.ref h, .ref z] (fun H => H.size = sz ∧ va_P E.1 zcl [(h, .inr (6, [.ref e1, .ref e2, .ref e3, .ref x, .ref y, .int (iI (bN fl))]))] H ∧ va_D (zOld E) [(h, .inr (6, [.ref e1, .ref e2, .ref e3, .ref x, .ref y, .int (iI (bN fl))]))] ∧ (True))) (zW (fun v H => v = none ∧ va_P E.1 zcl [(h, .inr (6, [.ref e1, .ref e2, .ref e3, .ref z, .ref y, .int (iI (bN fl))]))] H ∧ va_D (va_A [(h, .inr (6, [.ref e1, .ref e2, .ref e3, .ref x, .ref y, .int (iI (bN fl))]))] sz) [(h, .inr (6, [.ref e1, .ref e2, .ref e3, .ref z, .ref y, .int (iI (bN fl))]))]) (va_A [(h, .inr (6, [.ref e1, .ref e2, .ref e3, .ref x, .ref y, .int (iI (bN fl))]))] sz)) (0) (0) (va_A [(h, .inr (6, [.ref e1, .ref e2, .ref e3, .ref x, .ref y, .int (iI (bN fl))]))] sz) := by
  refine zMet (by decide) (Nat.le_of_ble_eq_true rfl) ?_
  intro p e s m below meth c ls S hr hlk hnm hE ⟨hsz, hP, hDo, hX⟩ hl
  have hx := S.1
  have hb := S.2.1
  have hE0 := hE
  have hl : lv_has ls 2 [(0, .ref h), (1, .ref z)] := hl
  subst hsz
  have hD := hDo.self (sz := s.heap.size)
  generalize hAe : va_A [(h, .inr (6, [.ref e1, .ref e2, .ref e3, .ref x, .ref y, .int (iI (bN fl))]))] s.heap.size = A at hD ⊢
  have hA : ∀ q : Nat, s.heap.size ≤ q → A q := fun q h => by rw [← hAe]; exact Or.inr h
  have hA0 := zA0 hE hDo hAe
  have hS : va_S A s.heap s.heap [] := va_S.rf
  refine lv_aload_n hx hb d_Output_turnFromHere_0 rfl (lv_at hl 0 rfl) ?_
  refine lv_aload_n hx hb d_Output_turnFromHere_1 rfl (lv_at hl 1 rfl) ?_
  refine va_put (D := E.1) (ci := 6) (v := .ref z) (ty := .object "ReplacementWriter$Turn") (C := "ReplacementWriter$Output") (T := F_Output) (N := 6) hx hb S.2.2.2.2 i_Output t_Output t_Output_ok n_Output S.2.2.2.1 hE.1 hP hD hS 0 rfl rfl 3 (by decide) (S.2.2.2.2 _ zw_157) (fun _ h9 => h9) rfl (by decide +kernel) rfl rfl (Nat.le_of_ble_eq_true rfl) d_Output_turnFromHere_2 (fun H locs hP hD hS => ?_)
  have hP : va_P E.1 zcl [(h, .inr (6, [.ref e1, .ref e2, .ref e3, .ref z, .ref y, .int (iI (bN fl))]))] H := hP
  have hD : va_D A [(h, .inr (6, [.ref e1, .ref e2, .ref e3, .ref z, .ref y, .int (iI (bN fl))]))] := hD
  have hE := hE0.at hS hA0
  exact zwv S hr hlk hS (⟨rfl, hP, hD⟩) (by (try dsimp only); omega) (by (try dsimp only); omega) d_Output_turnFromHere_5

set_option maxRecDepth 100000 in
set_option maxHeartbeats 4000000 in
theorem c_Output_turnNext (l : Launch) (E : zP) (sz : Nat) (h : Nat) (e1 e2 e3 : Nat) (x y z : Nat) (fl : Bool) : Met l y_Output_turnNext (.code y_Output_turnNext b_Output_turnNext 2 ( Option.none : Option FieldType ) :: zw) { frames := 0, cells := (0), slots := (0), locals := 0 } (zPc E [.ref h, .ref z] (fun H => H.size = sz ∧ va_P E.1 zcl [(h, .inr (6, [.ref e1, .ref e2, .ref e3, .ref x, .ref y, .int (iI (bN fl))]))] H ∧ va_D (zOld E) [(h, .inr (6, [.ref e1, .ref e2, .ref e3, .ref x, .ref y, .int (iI (bN fl))]))] ∧ (True))) (zW (fun v H => v = none ∧ va_P E.1 zcl [(h, .inr (6, [.ref e1, .ref e2, .ref e3, .ref x, .ref z, .int (iI (bN fl))]))] H ∧ va_D (va_A [(h, .inr (6, [.ref e1, .ref e2, .ref e3, .ref x, .ref y, .int (iI (bN fl))]))] sz) [(h, .inr (6, [.ref e1, .ref e2, .ref e3, .ref x, .ref z, .int (iI (bN fl))]))]) (va_A [(h, .inr (6, [.ref e1, .ref e2, .ref e3, .ref x, .ref y, .int (iI (bN fl))]))] sz)) (0) (0) (va_A [(h, .inr (6, [.ref e1, .ref e2, .ref e3, .ref x, .ref y, .int (iI (bN fl))]))] sz) := by
  refine zMet (by decide) (Nat.le_of_ble_eq_true rfl) ?_
  intro p e s m below meth c ls S hr hlk hnm hE ⟨hsz, hP, hDo, hX⟩ hl
  have hx := S.1
  have hb := S.2.1
  have hE0 := hE
  have hl : lv_has ls 2 [(0, .ref h), (1, .ref z)] := hl
  subst hsz
  have hD := hDo.self (sz := s.heap.size)
  generalize hAe : va_A [(h, .inr (6, [.ref e1, .ref e2, .ref e3, .ref x, .ref y, .int (iI (bN fl))]))] s.heap.size = A at hD ⊢
  have hA : ∀ q : Nat, s.heap.size ≤ q → A q := fun q h => by rw [← hAe]; exact Or.inr h
  have hA0 := zA0 hE hDo hAe
  have hS : va_S A s.heap s.heap [] := va_S.rf
  refine lv_aload_n hx hb d_Output_turnNext_0 rfl (lv_at hl 0 rfl) ?_
  refine lv_aload_n hx hb d_Output_turnNext_1 rfl (lv_at hl 1 rfl) ?_
  refine va_put (D := E.1) (ci := 6) (v := .ref z) (ty := .object "ReplacementWriter$Turn") (C := "ReplacementWriter$Output") (T := F_Output) (N := 6) hx hb S.2.2.2.2 i_Output t_Output t_Output_ok n_Output S.2.2.2.1 hE.1 hP hD hS 0 rfl rfl 4 (by decide) (S.2.2.2.2 _ zw_158) (fun _ h9 => h9) rfl (by decide +kernel) rfl rfl (Nat.le_of_ble_eq_true rfl) d_Output_turnNext_2 (fun H locs hP hD hS => ?_)
  have hP : va_P E.1 zcl [(h, .inr (6, [.ref e1, .ref e2, .ref e3, .ref x, .ref z, .int (iI (bN fl))]))] H := hP
  have hD : va_D A [(h, .inr (6, [.ref e1, .ref e2, .ref e3, .ref x, .ref z, .int (iI (bN fl))]))] := hD
  have hE := hE0.at hS hA0
  exact zwv S hr hlk hS (⟨rfl, hP, hD⟩) (by (try dsimp only); omega) (by (try dsimp only); omega) d_Output_turnNext_5

set_option maxRecDepth 100000 in
set_option maxHeartbeats 4000000 in
theorem c_Output_put (l : Launch) (E : zP) (sz : Nat) (Z : Nat → Prop) (h rb q en ca cap mode once c0 how t : Nat) (utf ucp : Bool) (f : Nat → Int32) (out : List Nat) (hB : zbytes out cap f) (hF : zfit cap f) (hc : sp_capok cap) (hmode : mode ≤ 2) (honce : once ≤ 2) (hok : sp_ok utf c0 = true) (hhow : how = if once = 0 then mode else once) (ht : t = sp_case utf ucp how c0) (hfits : out.length + sp_len utf t ≤ 262144) : Met l y_Output_put (.code y_Output_put b_Output_put 5 ( Option.none : Option FieldType ) :: zw) { frames := 3, cells := ((max cap (sp_up (out ++ sp_enc utf t).length) - cap) / 16), slots := (2 * (max cap (sp_up (out ++ sp_enc utf t).length) - cap)), locals := 82 } (zPc E [.ref h, .int (iI ((c0 : Nat) : Int))] (fun H => H.size = sz ∧ va_P E.1 zcl [(h, .inr (6, [.ref en, .ref ca, .ref rb, .ref (E.2.2.1 (mode + 1)), .ref (E.2.2.1 (once + 1)), .int (iI (bN false))])), (rb, .inr (1, [.int (iI 262144), .ref q, .int (iI ((out.length : Nat) : Int))])), (q, .inl (E.2.1 0, cap, .inl f))] H ∧ va_D (fun x => zOld E x ∧ ¬ Z x) [(h, .inr (6, [.ref en, .ref ca, .ref rb, .ref (E.2.2.1 (mode + 1)), .ref (E.2.2.1 (once + 1)), .int (iI (bN false))])), (rb, .inr (1, [.int (iI 262144), .ref q, .int (iI ((out.length : Nat) : Int))])), (q, .inl (E.2.1 0, cap, .inl f))] ∧ (∀ q, Z q → q < sz) ∧ (Z en ∧ Z ca ∧ zO E 2 en [.int (iI (bN utf))] H ∧ zO E 3 ca [.int (iI ((5 * sp_many utf ucp : Nat) : Int))] H))) (zW (fun v H => v = none ∧ ∃ (q2 : Nat) (f2 : Nat → Int32), va_P E.1 zcl [(h, .inr (6, [.ref en, .ref ca, .ref rb, .ref (E.2.2.1 (mode + 1)), .ref (E.2.2.1 (0 + 1)), .int (iI (bN false))])), (rb, .inr (1, [.int (iI 262144), .ref q2, .int (iI (((out ++ sp_enc utf t).length : Nat) : Int))])), (q2, .inl (E.2.1 0, max cap (sp_up (out ++ sp_enc utf t).length), .inl f2))] H ∧ va_D (va_A [(h, .inr (6, [.ref en, .ref ca, .ref rb, .ref (E.2.2.1 (mode + 1)), .ref (E.2.2.1 (once + 1)), .int (iI (bN false))])), (rb, .inr (1, [.int (iI 262144), .ref q, .int (iI ((out.length : Nat) : Int))])), (q, .inl (E.2.1 0, cap, .inl f))] sz) [(h, .inr (6, [.ref en, .ref ca, .ref rb, .ref (E.2.2.1 (mode + 1)), .ref (E.2.2.1 (0 + 1)), .int (iI (bN false))])), (rb, .inr (1, [.int (iI 262144), .ref q2, .int (iI (((out ++ sp_enc utf t).length : Nat) : Int))])), (q2, .inl (E.2.1 0, max cap (sp_up (out ++ sp_enc utf t).length), .inl f2))] ∧ zbytes (out ++ sp_enc utf t) (max cap (sp_up (out ++ sp_enc utf t).length)) f2 ∧ zfit (max cap (sp_up (out ++ sp_enc utf t).length)) f2) (va_A [(h, .inr (6, [.ref en, .ref ca, .ref rb, .ref (E.2.2.1 (mode + 1)), .ref (E.2.2.1 (once + 1)), .int (iI (bN false))])), (rb, .inr (1, [.int (iI 262144), .ref q, .int (iI ((out.length : Nat) : Int))])), (q, .inl (E.2.1 0, cap, .inl f))] sz)) ((max cap (sp_up (out ++ sp_enc utf t).length) - cap) / 16) (2 * (max cap (sp_up (out ++ sp_enc utf t).length) - cap)) (va_A [(h, .inr (6, [.ref en, .ref ca, .ref rb, .ref (E.2.2.1 (mode + 1)), .ref (E.2.2.1 (once + 1)), .int (iI (bN false))])), (rb, .inr (1, [.int (iI 262144), .ref q, .int (iI ((out.length : Nat) : Int))])), (q, .inl (E.2.1 0, cap, .inl f))] sz) := by
  refine zMet (by decide) (Nat.le_of_ble_eq_true rfl) ?_
  intro p e s m below meth c ls S hr hlk hnm hE ⟨hsz, hP, hDo, hZb, hze, hzc, hen, hca⟩ hl
  have hx := S.1
  have hb := S.2.1
  have hE0 := hE
  have hl : lv_has ls 5 [(0, .ref h), (1, .int (iI ((c0 : Nat) : Int)))] := hl
  subst hsz
  have hD := hDo.self (sz := s.heap.size)
  generalize hAe : va_A [(h, .inr (6, [.ref en, .ref ca, .ref rb, .ref (E.2.2.1 (mode + 1)), .ref (E.2.2.1 (once + 1)), .int (iI (bN false))])), (rb, .inr (1, [.int (iI 262144), .ref q, .int (iI ((out.length : Nat) : Int))])), (q, .inl (E.2.1 0, cap, .inl f))] s.heap.size = A at hD ⊢
  have hA : ∀ q : Nat, s.heap.size ≤ q → A q := fun q h => by rw [← hAe]; exact Or.inr h
  have hA1 := zAZ hE hDo hZb hAe
  have hA0 : ∀ q, A q → zOld E q := fun q h => (hA1 q h).1
  have hAZ : ∀ q, Z q → ¬ A q := fun q z h => (hA1 q h).2 z
  have hS : va_S A s.heap s.heap [] := va_S.rf
  have hlt := sp_case_lt (ucp := ucp) (how := how) hok
  rw [← ht] at hlt
  have hln := sp_len_le utf t
  have hc0b : c0 < 2097152 := by cases utf <;> simp [sp_ok] at hok <;> omega
  have hob := hB.1
  have hcr := sp_capok_r hc
  obtain ⟨capF, hcapF0⟩ : ∃ x, x = max cap (sp_up (out ++ sp_enc utf t).length) := ⟨_, rfl⟩
  rw [← hcapF0]
  refine lv_aload_n hx hb d_Output_put_0 rfl (lv_at hl 0 rfl) ?_
  refine zgf S hE (ci := 6) rfl i_Output (hP 0 _ rfl) 1 (by decide) zw_155 rfl d_Output_put_1 ?_
  refine lv_iload_n hx hb d_Output_put_4 rfl (lv_at hl 1 rfl) ?_
  refine lv_aload_n hx hb d_Output_put_5 rfl (lv_at hl 0 rfl) ?_
  refine zgf S hE (ci := 6) rfl i_Output (hP 0 _ rfl) 4 (by decide) zw_158 rfl d_Output_put_6 ?_
  refine zgs S hE.asis zw_152 d_Output_put_9 ?_
  refine zacmp_ne hx hb d_Output_put_12 rfl (fun h12 => ?_) (fun h12 => ?_)
  · have ho : once ≠ 0 := fun q => h12 (by rw [q])
    refine lv_aload_n hx hb d_Output_put_22 rfl (lv_at hl 0 rfl) ?_
    refine zgf S hE (ci := 6) rfl i_Output (hP 0 _ rfl) 4 (by decide) zw_158 rfl d_Output_put_23 ?_
    refine zcR (va_runV (As := [.int (iI ((c0 : Nat) : Int)), .ref (E.2.2.1 (once + 1))]) (rest := []) S (c_Cases_turned l E ca (sp_many utf ucp) c0 once (sp_many_le utf ucp) (by omega) honce) ⟨zcwB (n := 2) S zw_675 zw_9 zw_672 (by decide +kernel) rfl rfl ⟨Nat.le_of_ble_eq_true rfl, Nat.le_of_ble_eq_true rfl⟩, S.2.2.2.2 _ zw_673, S.2.2.2.2 _ zw_674⟩ (zPreV hE (zfz hS hca (hAZ _ hzc)) rfl (zfz hS hca (hAZ _ hzc))) rfl rfl hl.1 rfl (lv_room (Nat.le_of_ble_eq_true rfl)) d_Output_put_26 ⟨by (try dsimp only); omega, by (try dsimp only); omega⟩) ?_
    rw [sp_case_eq hok, ← (show t = sp_case utf ucp once c0 by rw [ht, hhow]; rw [if_neg ho])]
    refine lv_istore_n (lv' := [(2, .int (iI ((t : Nat) : Int))), (0, .ref h), (1, .int (iI ((c0 : Nat) : Int)))]) hx hb d_Output_put_29 rfl hl (by decide) rfl (fun ls hl => ?_)
    refine lv_aload_n hx hb d_Output_put_30 rfl (lv_at hl 1 rfl) ?_
    refine zgs S hE.asis zw_152 d_Output_put_31 ?_
    refine va_put (D := E.1) (ci := 6) (v := .ref (E.2.2.1 1)) (ty := .object "ReplacementWriter$Turn") (C := "ReplacementWriter$Output") (T := F_Output) (N := 6) hx hb S.2.2.2.2 i_Output t_Output t_Output_ok n_Output S.2.2.2.1 hE.1 hP hD hS 0 rfl rfl 4 (by decide) (S.2.2.2.2 _ zw_158) (fun _ h9 => h9) rfl (by decide +kernel) rfl rfl (Nat.le_of_ble_eq_true rfl) d_Output_put_34 (fun H locs hP hD hS => ?_)
    have hP : va_P E.1 zcl [(h, .inr (6, [.ref en, .ref ca, .ref rb, .ref (E.2.2.1 (mode + 1)), .ref (E.2.2.1 1), .int (iI (bN false))])), (rb, .inr (1, [.int (iI 262144), .ref q, .int (iI ((out.length : Nat) : Int))])), (q, .inl (E.2.1 0, cap, .inl f))] H := hP
    have hD : va_D A [(h, .inr (6, [.ref en, .ref ca, .ref rb, .ref (E.2.2.1 (mode + 1)), .ref (E.2.2.1 1), .int (iI (bN false))])), (rb, .inr (1, [.int (iI 262144), .ref q, .int (iI ((out.length : Nat) : Int))])), (q, .inl (E.2.1 0, cap, .inl f))] := hD
    have hE := hE0.at hS hA0
    refine lv_aload_n hx hb d_Output_put_37 rfl (lv_at hl 1 rfl) ?_
    refine zgf S hE (ci := 6) rfl i_Output (hP 0 _ rfl) 0 (by decide) zw_154 rfl d_Output_put_38 ?_
    refine lv_iload_n hx hb d_Output_put_41 rfl (lv_at hl 0 rfl) ?_
    refine zcR (va_runV (As := [.int (iI ((t : Nat) : Int))]) (rest := []) S (c_Encoding_lengthOf l E en utf t (by omega)) ⟨zcwB (n := 1) S zw_457 zw_7 zw_682 (by decide +kernel) rfl rfl ⟨Nat.le_of_ble_eq_true rfl, Nat.le_of_ble_eq_true rfl⟩, S.2.2.2.2 _ zw_455, S.2.2.2.2 _ zw_456⟩ (zPreV hE (zfz hS hen (hAZ _ hze)) rfl (zfz hS hen (hAZ _ hze))) rfl rfl hl.1 rfl (lv_room (Nat.le_of_ble_eq_true rfl)) d_Output_put_42 ⟨by (try dsimp only); omega, by (try dsimp only); omega⟩) ?_
    have hb42 := sp_len_le utf t
    refine lv_istore_n (lv' := [(3, .int (iI ((sp_len utf t : Nat) : Int))), (2, .int (iI ((t : Nat) : Int))), (0, .ref h), (1, .int (iI ((c0 : Nat) : Int)))]) hx hb d_Output_put_45 rfl hl (by decide) rfl (fun ls hl => ?_)
    refine lv_aload_n hx hb d_Output_put_46 rfl (lv_at hl 2 rfl) ?_
    refine zgf S hE (ci := 6) rfl i_Output (hP 0 _ rfl) 2 (by decide) zw_156 rfl d_Output_put_47 ?_
    refine zcR (va_runV (As := []) (rest := []) S (c_Row_length l E rb out) ⟨zcwB (n := 0) S zw_258 zw_2 zw_683 (by decide +kernel) rfl rfl ⟨Nat.le_of_ble_eq_true rfl, Nat.le_of_ble_eq_true rfl⟩, S.2.2.2.2 _ zw_256, S.2.2.2.2 _ zw_257⟩ (zPreVrow hE (zrow.of (hP 1 _ rfl) (hP 2 _ rfl) hB) (zrow.of (hP 1 _ rfl) (hP 2 _ rfl) hB)) rfl rfl hl.1 rfl (lv_room (Nat.le_of_ble_eq_true rfl)) d_Output_put_50 ⟨by (try dsimp only); omega, by (try dsimp only); omega⟩) ?_
    refine lv_iload_n hx hb d_Output_put_53 rfl (lv_at hl 0 rfl) ?_
    refine zi_iadd hx hb d_Output_put_54 ?_
    refine zldc (n := 262144) S zw_150 (by decide) d_Output_put_55 ?_
    refine zi_icmp_le hx hb d_Output_put_57 rfl (by omega) (by omega) (fun h57 => ?_) (fun h => absurd h (by omega))
    have h4 : sp_len utf t = 1 ∨ sp_len utf t = 2 ∨ sp_len utf t = 3 ∨ sp_len utf t = 4 := by omega
    rcases h4 with e4 | e4 | e4 | e4
    · rw [e4] at hl
      have hl : lv_has ls 5 [(3, .int (iI 1)), (2, .int (iI ((t : Nat) : Int))), (0, .ref h), (1, .int (iI ((c0 : Nat) : Int)))] := hl
      have hr4 : utf = false ∨ t < 128 := by unfold sp_len at e4; split at e4; assumption; split at e4 <;> (try split at e4) <;> omega
      have henc : sp_enc utf t = [t] := by unfold sp_enc; rw [if_pos hr4]
      have hcapF : capF = max cap (sp_up (out.length + 1)) := by rw [hcapF0, List.length_append, sp_enc_len, e4]
      have ht8 : t < 256 := by rcases hr4 with q | q; exact hlt.2 q; omega
      have hB0 := hB
      have hF0 := hF
      have hc0 := hc
      refine lv_iload_n hx hb d_Output_put_66 rfl (lv_at hl 0 rfl) ?_
      refine zi_iconst hx hb d_Output_put_67 ?_
      refine zi_icmp_ne hx hb d_Output_put_68 rfl (by omega) (by omega) (fun h => absurd h (by omega)) (fun h68 => ?_)
      refine lv_aload_n hx hb d_Output_put_71 rfl (lv_at hl 2 rfl) ?_
      refine zgf S hE (ci := 6) rfl i_Output (hP 0 _ rfl) 2 (by decide) zw_156 rfl d_Output_put_72 ?_
      refine lv_iload_n hx hb d_Output_put_75 rfl (lv_at hl 1 rfl) ?_
      have hw0 : (iI ((t : Nat) : Int)).toInt8.toInt32 = sb_b (t) := sb_of (by omega) (by omega)
      have hn0 : (out).length = out.length + 0 := by simp
      have hl0 : (out).length ≤ cap := hB0.1
      have hg0 := sp_grow_up hc0 hl0 (by omega)
      have hm0 : sp_up ((out).length + 1) ≤ sp_up (out.length + 1) := sp_up_mono (by omega)
      have hc1 : sp_capok (sp_grow cap out.length) := by rw [hg0]; exact sp_capok_max hc0 (sp_up_ok _)
      have hPc := hP.sub (ws' := [(rb, .inr (1, [.int (iI 262144), .ref q, .int (iI ((out.length : Nat) : Int))])), (q, .inl (E.2.1 0, cap, .inl f))]) [1, 2] rfl
      have hDc := hD.sub (ws' := [(rb, .inr (1, [.int (iI 262144), .ref q, .int (iI ((out.length : Nat) : Int))])), (q, .inl (E.2.1 0, cap, .inl f))]) [1, 2] (by decide) rfl
      have hFc := va_free (wc := [(rb, .inr (1, [.int (iI 262144), .ref q, .int (iI ((out.length : Nat) : Int))])), (q, .inl (E.2.1 0, cap, .inl f))]) hD hS hA [1, 2] rfl
      refine zcW (va_runV (As := [.int (iI ((t : Nat) : Int))]) (rest := []) S (c_Row_add l E H.size rb q cap (t) 262144 f out (iI ((t : Nat) : Int)) hw0 (by omega) hB0 (by omega) (by omega) (sp_capok_r hc0).1 (sp_capok_r hc0).2.1 hF0) ⟨zcwB (n := 1) S zw_353 zw_2 zw_684 (by decide +kernel) rfl rfl ⟨Nat.le_of_ble_eq_true rfl, Nat.le_of_ble_eq_true rfl⟩, S.2.2.2.2 _ zw_351, S.2.2.2.2 _ zw_352⟩ (zPreV hE (hP 1 _ rfl) rfl ⟨rfl, hPc, hDc.weaken (fun _ _ _ h => hA0 _ h), trivial⟩) rfl rfl hl.1 rfl (lv_room (Nat.le_of_ble_eq_true rfl)) d_Output_put_76 ⟨by (try dsimp only); omega, by (try dsimp only); omega⟩) hS (fun q _ h => hFc q h) hFc (fun v H locs hq hz1 hk1 hS => ?_)
      obtain ⟨rfl, q0, f0, hP1, hD1, hB1, hF1⟩ := hq
      obtain ⟨hP, hD⟩ := va_join (wr := [(h, .inr (6, [.ref en, .ref ca, .ref rb, .ref (E.2.2.1 (mode + 1)), .ref (E.2.2.1 1), .int (iI (bN false))]))]) (w1 := [(rb, .inr (1, [.int (iI 262144), .ref q0, .int (iI (((out ++ [t]).length : Nat) : Int))])), (q0, .inl (E.2.1 0, sp_grow cap out.length, .inl f0))]) hP hD [1, 2] [0] rfl rfl (by decide) (by decide) hk1 hFc hP1 hD1
      have hP : va_P E.1 zcl [(h, .inr (6, [.ref en, .ref ca, .ref rb, .ref (E.2.2.1 (mode + 1)), .ref (E.2.2.1 1), .int (iI (bN false))])), (rb, .inr (1, [.int (iI 262144), .ref q0, .int (iI (((out ++ [t]).length : Nat) : Int))])), (q0, .inl (E.2.1 0, sp_grow cap out.length, .inl f0))] H := hP
      have hD : va_D A [(h, .inr (6, [.ref en, .ref ca, .ref rb, .ref (E.2.2.1 (mode + 1)), .ref (E.2.2.1 1), .int (iI (bN false))])), (rb, .inr (1, [.int (iI 262144), .ref q0, .int (iI (((out ++ [t]).length : Nat) : Int))])), (q0, .inl (E.2.1 0, sp_grow cap out.length, .inl f0))] := hD
      have hE := hE0.at hS hA0
      obtain ⟨cap0, ec0⟩ : ∃ x, x = sp_grow cap out.length := ⟨_, rfl⟩
      rw [← ec0] at hg0 hc1 hB1 hF1 hP hD
      rw [← ec0]
      refine W.widen (k := (cap0 - cap) / 16) (n := 2 * (cap0 - cap)) (by omega) (by omega) ?_
      have hfin : out ++ [t] = out ++ sp_enc utf t := by simp [henc]
      have hlast : sp_up (out.length + 0 + 1) = sp_up (out.length + 1) := rfl
      have hcf : cap0 = capF := by rw [hn0] at hg0 hm0; omega
      have hP9 := hP.sub (ws' := [(h, .inr (6, [.ref en, .ref ca, .ref rb, .ref (E.2.2.1 (mode + 1)), .ref (E.2.2.1 1), .int (iI (bN false))])), (rb, .inr (1, [.int (iI 262144), .ref q0, .int (iI (((out ++ [t]).length : Nat) : Int))])), (q0, .inl (E.2.1 0, cap0, .inl f0))]) [0, 1, 2] rfl
      have hD9 := hD.sub (ws' := [(h, .inr (6, [.ref en, .ref ca, .ref rb, .ref (E.2.2.1 (mode + 1)), .ref (E.2.2.1 1), .int (iI (bN false))])), (rb, .inr (1, [.int (iI 262144), .ref q0, .int (iI (((out ++ [t]).length : Nat) : Int))])), (q0, .inl (E.2.1 0, cap0, .inl f0))]) [0, 1, 2] (by decide) rfl
      rw [hfin] at hP9 hD9 hB1
      rw [hcf] at hP9 hD9 hB1 hF1
      rw [hcf]
      exact zwv S hr hlk hS (⟨rfl, q0, f0, hP9, hD9, hB1, hF1⟩) (by (try dsimp only); omega) (by (try dsimp only); omega) d_Output_put_79
    · rw [e4] at hl
      have hl : lv_has ls 5 [(3, .int (iI 2)), (2, .int (iI ((t : Nat) : Int))), (0, .ref h), (1, .int (iI ((c0 : Nat) : Int)))] := hl
      have hr4 : ¬ (utf = false ∨ t < 128) ∧ t < 2048 := by unfold sp_len at e4; split at e4; omega; split at e4; constructor <;> assumption; split at e4 <;> omega
      have henc : sp_enc utf t = [192 + t / 64, 128 + t % 64] := by unfold sp_enc; rw [if_neg hr4.1, if_pos hr4.2]
      have hcapF : capF = max cap (sp_up (out.length + 2)) := by rw [hcapF0, List.length_append, sp_enc_len, e4]
      have hB0 := hB
      have hF0 := hF
      have hc0 := hc
      refine lv_iload_n hx hb d_Output_put_66 rfl (lv_at hl 0 rfl) ?_
      refine zi_iconst hx hb d_Output_put_67 ?_
      refine zi_icmp_ne hx hb d_Output_put_68 rfl (by omega) (by omega) (fun h68 => ?_) (fun h => absurd h (by omega))
      refine lv_aload_n hx hb d_Output_put_80 rfl (lv_at hl 2 rfl) ?_
      refine zgf S hE (ci := 6) rfl i_Output (hP 0 _ rfl) 2 (by decide) zw_156 rfl d_Output_put_81 ?_
      refine zi_sipush hx hb d_Output_put_84 (by decide) ?_
      refine lv_iload_n hx hb d_Output_put_87 rfl (lv_at hl 0 rfl) ?_
      refine zi_ishr (r := 960) hx hb d_Output_put_88 (by decide) ?_
      refine lv_iload_n hx hb d_Output_put_89 rfl (lv_at hl 1 rfl) ?_
      refine zi_bipush hx hb d_Output_put_90 (by decide) ?_
      refine lv_iload_n hx hb d_Output_put_92 rfl (lv_at hl 0 rfl) ?_
      refine zi_iconst hx hb d_Output_put_93 ?_
      refine zi_isub hx hb d_Output_put_94 ?_
      refine W.eq (g2 := F0 m 95 ls ([.int (iI 1), .int (iI 6), .int (iI ((t : Nat) : Int)), .int (iI 960), .ref rb])) rfl ?_
      refine zi_imul hx hb d_Output_put_95 ?_
      refine W.eq (g2 := F0 m 96 ls ([.int (iI 6), .int (iI ((t : Nat) : Int)), .int (iI 960), .ref rb])) rfl ?_
      refine zi_ishr hx hb d_Output_put_96 (iI_shrN 6 6 (by omega) (by omega) (by decide)) ?_
      refine zi_ior hx hb d_Output_put_97 (iI_orK 960 6 15 (by decide) (by omega) (by omega)) ?_
      have hw0 : (iI (960 + (((t : Nat) : Int) / 2 ^ 6))).toInt8.toInt32 = sb_b (192 + t / 64) := sb_of (by omega) (by omega)
      have hn0 : (out).length = out.length + 0 := by simp
      have hl0 : (out).length ≤ cap := hB0.1
      have hg0 := sp_grow_up hc0 hl0 (by omega)
      have hm0 : sp_up ((out).length + 1) ≤ sp_up (out.length + 2) := sp_up_mono (by omega)
      have hc1 : sp_capok (sp_grow cap out.length) := by rw [hg0]; exact sp_capok_max hc0 (sp_up_ok _)
      have hPc := hP.sub (ws' := [(rb, .inr (1, [.int (iI 262144), .ref q, .int (iI ((out.length : Nat) : Int))])), (q, .inl (E.2.1 0, cap, .inl f))]) [1, 2] rfl
      have hDc := hD.sub (ws' := [(rb, .inr (1, [.int (iI 262144), .ref q, .int (iI ((out.length : Nat) : Int))])), (q, .inl (E.2.1 0, cap, .inl f))]) [1, 2] (by decide) rfl
      have hFc := va_free (wc := [(rb, .inr (1, [.int (iI 262144), .ref q, .int (iI ((out.length : Nat) : Int))])), (q, .inl (E.2.1 0, cap, .inl f))]) hD hS hA [1, 2] rfl
      refine zcW (va_runV (As := [.int (iI (960 + (((t : Nat) : Int) / 2 ^ 6)))]) (rest := []) S (c_Row_add l E H.size rb q cap (192 + t / 64) 262144 f out (iI (960 + (((t : Nat) : Int) / 2 ^ 6))) hw0 (by omega) hB0 (by omega) (by omega) (sp_capok_r hc0).1 (sp_capok_r hc0).2.1 hF0) ⟨zcwB (n := 1) S zw_353 zw_2 zw_684 (by decide +kernel) rfl rfl ⟨Nat.le_of_ble_eq_true rfl, Nat.le_of_ble_eq_true rfl⟩, S.2.2.2.2 _ zw_351, S.2.2.2.2 _ zw_352⟩ (zPreV hE (hP 1 _ rfl) rfl ⟨rfl, hPc, hDc.weaken (fun _ _ _ h => hA0 _ h), trivial⟩) rfl rfl hl.1 rfl (lv_room (Nat.le_of_ble_eq_true rfl)) d_Output_put_98 ⟨by (try dsimp only); omega, by (try dsimp only); omega⟩) hS (fun q _ h => hFc q h) hFc (fun v H locs hq hz1 hk1 hS => ?_)
      obtain ⟨rfl, q0, f0, hP1, hD1, hB1, hF1⟩ := hq
      obtain ⟨hP, hD⟩ := va_join (wr := [(h, .inr (6, [.ref en, .ref ca, .ref rb, .ref (E.2.2.1 (mode + 1)), .ref (E.2.2.1 1), .int (iI (bN false))]))]) (w1 := [(rb, .inr (1, [.int (iI 262144), .ref q0, .int (iI (((out ++ [192 + t / 64]).length : Nat) : Int))])), (q0, .inl (E.2.1 0, sp_grow cap out.length, .inl f0))]) hP hD [1, 2] [0] rfl rfl (by decide) (by decide) hk1 hFc hP1 hD1
      have hP : va_P E.1 zcl [(h, .inr (6, [.ref en, .ref ca, .ref rb, .ref (E.2.2.1 (mode + 1)), .ref (E.2.2.1 1), .int (iI (bN false))])), (rb, .inr (1, [.int (iI 262144), .ref q0, .int (iI (((out ++ [192 + t / 64]).length : Nat) : Int))])), (q0, .inl (E.2.1 0, sp_grow cap out.length, .inl f0))] H := hP
      have hD : va_D A [(h, .inr (6, [.ref en, .ref ca, .ref rb, .ref (E.2.2.1 (mode + 1)), .ref (E.2.2.1 1), .int (iI (bN false))])), (rb, .inr (1, [.int (iI 262144), .ref q0, .int (iI (((out ++ [192 + t / 64]).length : Nat) : Int))])), (q0, .inl (E.2.1 0, sp_grow cap out.length, .inl f0))] := hD
      have hE := hE0.at hS hA0
      obtain ⟨cap0, ec0⟩ : ∃ x, x = sp_grow cap out.length := ⟨_, rfl⟩
      rw [← ec0] at hg0 hc1 hB1 hF1 hP hD
      rw [← ec0]
      refine W.widen (k := (cap0 - cap) / 16) (n := 2 * (cap0 - cap)) (by omega) (by omega) ?_
      refine lv_iload_n hx hb d_Output_put_101 rfl (lv_at hl 0 rfl) ?_
      refine zi_iconst hx hb d_Output_put_102 ?_
      refine zi_isub hx hb d_Output_put_103 ?_
      refine W.eq (g2 := F0 m 104 ls ([.int (iI 0)])) rfl ?_
      refine lv_istore (lv' := [(4, .int (iI 0)), (3, .int (iI 2)), (2, .int (iI ((t : Nat) : Int))), (0, .ref h), (1, .int (iI ((c0 : Nat) : Int)))]) hx hb d_Output_put_104 hl (by decide) rfl (fun ls hl => ?_)
      refine lv_iload hx hb d_Output_put_106 (lv_at hl 0 rfl) ?_
      refine zi_if_lt hx hb d_Output_put_108 rfl (by omega) (fun h108 => absurd h108 (by omega)) (fun h108 => ?_)
      refine lv_aload_n hx hb d_Output_put_111 rfl (lv_at hl 3 rfl) ?_
      refine zgf S hE (ci := 6) rfl i_Output (hP 0 _ rfl) 2 (by decide) zw_156 rfl d_Output_put_112 ?_
      refine zi_sipush hx hb d_Output_put_115 (by decide) ?_
      refine lv_iload_n hx hb d_Output_put_118 rfl (lv_at hl 2 rfl) ?_
      refine zi_bipush hx hb d_Output_put_119 (by decide) ?_
      refine lv_iload hx hb d_Output_put_121 (lv_at hl 0 rfl) ?_
      refine zi_imul hx hb d_Output_put_123 ?_
      refine W.eq (g2 := F0 m 124 ls ([.int (iI 0), .int (iI ((t : Nat) : Int)), .int (iI 128), .ref rb])) rfl ?_
      refine zi_ishr hx hb d_Output_put_124 (iI_shrN 0 0 (by omega) (by omega) (by decide)) ?_
      refine zi_bipush hx hb d_Output_put_125 (by decide) ?_
      refine zi_iand hx hb d_Output_put_127 (iI_mask 6 63 64 (by omega) (by decide) (by decide)) ?_
      refine zi_ior hx hb d_Output_put_128 (iI_orK 128 7 1 (by decide) (by omega) (by omega)) ?_
      have hw1 : (iI (128 + ((((t : Nat) : Int) / 2 ^ 0) % 64))).toInt8.toInt32 = sb_b (128 + t % 64) := sb_of (by omega) (by omega)
      have hn1 : (out ++ [192 + t / 64]).length = out.length + 1 := by simp
      have hl1 : (out ++ [192 + t / 64]).length ≤ cap0 := hB1.1
      have hg1 := sp_grow_up hc1 hl1 (by omega)
      have hm1 : sp_up ((out ++ [192 + t / 64]).length + 1) ≤ sp_up (out.length + 2) := sp_up_mono (by omega)
      have hc2 : sp_capok (sp_grow cap0 (out ++ [192 + t / 64]).length) := by rw [hg1]; exact sp_capok_max hc1 (sp_up_ok _)
      have hPc := hP.sub (ws' := [(rb, .inr (1, [.int (iI 262144), .ref q0, .int (iI (((out ++ [192 + t / 64]).length : Nat) : Int))])), (q0, .inl (E.2.1 0, cap0, .inl f0))]) [1, 2] rfl
      have hDc := hD.sub (ws' := [(rb, .inr (1, [.int (iI 262144), .ref q0, .int (iI (((out ++ [192 + t / 64]).length : Nat) : Int))])), (q0, .inl (E.2.1 0, cap0, .inl f0))]) [1, 2] (by decide) rfl
      have hFc := va_free (wc := [(rb, .inr (1, [.int (iI 262144), .ref q0, .int (iI (((out ++ [192 + t / 64]).length : Nat) : Int))])), (q0, .inl (E.2.1 0, cap0, .inl f0))]) hD hS hA [1, 2] rfl
      refine zcW (va_runV (As := [.int (iI (128 + ((((t : Nat) : Int) / 2 ^ 0) % 64)))]) (rest := []) S (c_Row_add l E H.size rb q0 cap0 (128 + t % 64) 262144 f0 (out ++ [192 + t / 64]) (iI (128 + ((((t : Nat) : Int) / 2 ^ 0) % 64))) hw1 (by omega) hB1 (by omega) (by omega) (sp_capok_r hc1).1 (sp_capok_r hc1).2.1 hF1) ⟨zcwB (n := 1) S zw_353 zw_2 zw_684 (by decide +kernel) rfl rfl ⟨Nat.le_of_ble_eq_true rfl, Nat.le_of_ble_eq_true rfl⟩, S.2.2.2.2 _ zw_351, S.2.2.2.2 _ zw_352⟩ (zPreV hE (hP 1 _ rfl) rfl ⟨rfl, hPc, hDc.weaken (fun _ _ _ h => hA0 _ h), trivial⟩) rfl rfl hl.1 rfl (lv_room (Nat.le_of_ble_eq_true rfl)) d_Output_put_129 ⟨by (try dsimp only); omega, by (try dsimp only); omega⟩) hS (fun q _ h => hFc q h) hFc (fun v H locs hq hz1 hk1 hS => ?_)
      obtain ⟨rfl, q1, f1, hP1, hD1, hB2, hF2⟩ := hq
      obtain ⟨hP, hD⟩ := va_join (wr := [(h, .inr (6, [.ref en, .ref ca, .ref rb, .ref (E.2.2.1 (mode + 1)), .ref (E.2.2.1 1), .int (iI (bN false))]))]) (w1 := [(rb, .inr (1, [.int (iI 262144), .ref q1, .int (iI ((((out ++ [192 + t / 64]) ++ [128 + t % 64]).length : Nat) : Int))])), (q1, .inl (E.2.1 0, sp_grow cap0 (out ++ [192 + t / 64]).length, .inl f1))]) hP hD [1, 2] [0] rfl rfl (by decide) (by decide) hk1 hFc hP1 hD1
      have hP : va_P E.1 zcl [(h, .inr (6, [.ref en, .ref ca, .ref rb, .ref (E.2.2.1 (mode + 1)), .ref (E.2.2.1 1), .int (iI (bN false))])), (rb, .inr (1, [.int (iI 262144), .ref q1, .int (iI ((((out ++ [192 + t / 64]) ++ [128 + t % 64]).length : Nat) : Int))])), (q1, .inl (E.2.1 0, sp_grow cap0 (out ++ [192 + t / 64]).length, .inl f1))] H := hP
      have hD : va_D A [(h, .inr (6, [.ref en, .ref ca, .ref rb, .ref (E.2.2.1 (mode + 1)), .ref (E.2.2.1 1), .int (iI (bN false))])), (rb, .inr (1, [.int (iI 262144), .ref q1, .int (iI ((((out ++ [192 + t / 64]) ++ [128 + t % 64]).length : Nat) : Int))])), (q1, .inl (E.2.1 0, sp_grow cap0 (out ++ [192 + t / 64]).length, .inl f1))] := hD
      have hE := hE0.at hS hA0
      obtain ⟨cap1, ec1⟩ : ∃ x, x = sp_grow cap0 (out ++ [192 + t / 64]).length := ⟨_, rfl⟩
      rw [← ec1] at hg1 hc2 hB2 hF2 hP hD
      rw [← ec1]
      refine W.widen (k := (cap1 - cap) / 16) (n := 2 * (cap1 - cap)) (by omega) (by omega) ?_
      refine lv_iinc (k := 0) (v := (iI (-1))) (lv' := [(4, .int (iI (-1))), (3, .int (iI 2)), (2, .int (iI ((t : Nat) : Int))), (0, .ref h), (1, .int (iI ((c0 : Nat) : Int)))]) hx hb d_Output_put_132 hl rfl (by decide) (by decide) rfl (fun ls hl => ?_)
      refine lv_goto hx hb d_Output_put_135 rfl ?_
      refine lv_iload hx hb d_Output_put_106 (lv_at hl 0 rfl) ?_
      refine zi_if_lt hx hb d_Output_put_108 rfl (by omega) (fun h108 => ?_) (fun h108 => absurd h108 (by omega))
      have hfin : (out ++ [192 + t / 64]) ++ [128 + t % 64] = out ++ sp_enc utf t := by simp [henc]
      have hlast : sp_up (out.length + 1 + 1) = sp_up (out.length + 2) := rfl
      have hcf : cap1 = capF := by rw [hn1] at hg1 hm1; omega
      have hP9 := hP.sub (ws' := [(h, .inr (6, [.ref en, .ref ca, .ref rb, .ref (E.2.2.1 (mode + 1)), .ref (E.2.2.1 1), .int (iI (bN false))])), (rb, .inr (1, [.int (iI 262144), .ref q1, .int (iI ((((out ++ [192 + t / 64]) ++ [128 + t % 64]).length : Nat) : Int))])), (q1, .inl (E.2.1 0, cap1, .inl f1))]) [0, 1, 2] rfl
      have hD9 := hD.sub (ws' := [(h, .inr (6, [.ref en, .ref ca, .ref rb, .ref (E.2.2.1 (mode + 1)), .ref (E.2.2.1 1), .int (iI (bN false))])), (rb, .inr (1, [.int (iI 262144), .ref q1, .int (iI ((((out ++ [192 + t / 64]) ++ [128 + t % 64]).length : Nat) : Int))])), (q1, .inl (E.2.1 0, cap1, .inl f1))]) [0, 1, 2] (by decide) rfl
      rw [hfin] at hP9 hD9 hB2
      rw [hcf] at hP9 hD9 hB2 hF2
      rw [hcf]
      exact zwv S hr hlk hS (⟨rfl, q1, f1, hP9, hD9, hB2, hF2⟩) (by (try dsimp only); omega) (by (try dsimp only); omega) d_Output_put_138
    · rw [e4] at hl
      have hl : lv_has ls 5 [(3, .int (iI 3)), (2, .int (iI ((t : Nat) : Int))), (0, .ref h), (1, .int (iI ((c0 : Nat) : Int)))] := hl
      have hr4 : ¬ (utf = false ∨ t < 128) ∧ ¬ t < 2048 ∧ t < 65536 := by unfold sp_len at e4; split at e4; omega; split at e4; omega; split at e4; exact ⟨by assumption, by assumption, by assumption⟩; omega
      have henc : sp_enc utf t = [224 + t / 4096, 128 + t / 64 % 64, 128 + t % 64] := by unfold sp_enc; rw [if_neg hr4.1, if_neg hr4.2.1, if_pos hr4.2.2]
      have hcapF : capF = max cap (sp_up (out.length + 3)) := by rw [hcapF0, List.length_append, sp_enc_len, e4]
      have hB0 := hB
      have hF0 := hF
      have hc0 := hc
      refine lv_iload_n hx hb d_Output_put_66 rfl (lv_at hl 0 rfl) ?_
      refine zi_iconst hx hb d_Output_put_67 ?_
      refine zi_icmp_ne hx hb d_Output_put_68 rfl (by omega) (by omega) (fun h68 => ?_) (fun h => absurd h (by omega))
      refine lv_aload_n hx hb d_Output_put_80 rfl (lv_at hl 2 rfl) ?_
      refine zgf S hE (ci := 6) rfl i_Output (hP 0 _ rfl) 2 (by decide) zw_156 rfl d_Output_put_81 ?_
      refine zi_sipush hx hb d_Output_put_84 (by decide) ?_
      refine lv_iload_n hx hb d_Output_put_87 rfl (lv_at hl 0 rfl) ?_
      refine zi_ishr (r := 480) hx hb d_Output_put_88 (by decide) ?_
      refine lv_iload_n hx hb d_Output_put_89 rfl (lv_at hl 1 rfl) ?_
      refine zi_bipush hx hb d_Output_put_90 (by decide) ?_
      refine lv_iload_n hx hb d_Output_put_92 rfl (lv_at hl 0 rfl) ?_
      refine zi_iconst hx hb d_Output_put_93 ?_
      refine zi_isub hx hb d_Output_put_94 ?_
      refine W.eq (g2 := F0 m 95 ls ([.int (iI 2), .int (iI 6), .int (iI ((t : Nat) : Int)), .int (iI 480), .ref rb])) rfl ?_
      refine zi_imul hx hb d_Output_put_95 ?_
      refine W.eq (g2 := F0 m 96 ls ([.int (iI 12), .int (iI ((t : Nat) : Int)), .int (iI 480), .ref rb])) rfl ?_
      refine zi_ishr hx hb d_Output_put_96 (iI_shrN 12 12 (by omega) (by omega) (by decide)) ?_
      refine zi_ior hx hb d_Output_put_97 (iI_orK 480 5 15 (by decide) (by omega) (by omega)) ?_
      have hw0 : (iI (480 + (((t : Nat) : Int) / 2 ^ 12))).toInt8.toInt32 = sb_b (224 + t / 4096) := sb_of (by omega) (by omega)
      have hn0 : (out).length = out.length + 0 := by simp
      have hl0 : (out).length ≤ cap := hB0.1
      have hg0 := sp_grow_up hc0 hl0 (by omega)
      have hm0 : sp_up ((out).length + 1) ≤ sp_up (out.length + 3) := sp_up_mono (by omega)
      have hc1 : sp_capok (sp_grow cap out.length) := by rw [hg0]; exact sp_capok_max hc0 (sp_up_ok _)
      have hPc := hP.sub (ws' := [(rb, .inr (1, [.int (iI 262144), .ref q, .int (iI ((out.length : Nat) : Int))])), (q, .inl (E.2.1 0, cap, .inl f))]) [1, 2] rfl
      have hDc := hD.sub (ws' := [(rb, .inr (1, [.int (iI 262144), .ref q, .int (iI ((out.length : Nat) : Int))])), (q, .inl (E.2.1 0, cap, .inl f))]) [1, 2] (by decide) rfl
      have hFc := va_free (wc := [(rb, .inr (1, [.int (iI 262144), .ref q, .int (iI ((out.length : Nat) : Int))])), (q, .inl (E.2.1 0, cap, .inl f))]) hD hS hA [1, 2] rfl
      refine zcW (va_runV (As := [.int (iI (480 + (((t : Nat) : Int) / 2 ^ 12)))]) (rest := []) S (c_Row_add l E H.size rb q cap (224 + t / 4096) 262144 f out (iI (480 + (((t : Nat) : Int) / 2 ^ 12))) hw0 (by omega) hB0 (by omega) (by omega) (sp_capok_r hc0).1 (sp_capok_r hc0).2.1 hF0) ⟨zcwB (n := 1) S zw_353 zw_2 zw_684 (by decide +kernel) rfl rfl ⟨Nat.le_of_ble_eq_true rfl, Nat.le_of_ble_eq_true rfl⟩, S.2.2.2.2 _ zw_351, S.2.2.2.2 _ zw_352⟩ (zPreV hE (hP 1 _ rfl) rfl ⟨rfl, hPc, hDc.weaken (fun _ _ _ h => hA0 _ h), trivial⟩) rfl rfl hl.1 rfl (lv_room (Nat.le_of_ble_eq_true rfl)) d_Output_put_98 ⟨by (try dsimp only); omega, by (try dsimp only); omega⟩) hS (fun q _ h => hFc q h) hFc (fun v H locs hq hz1 hk1 hS => ?_)
      obtain ⟨rfl, q0, f0, hP1, hD1, hB1, hF1⟩ := hq
      obtain ⟨hP, hD⟩ := va_join (wr := [(h, .inr (6, [.ref en, .ref ca, .ref rb, .ref (E.2.2.1 (mode + 1)), .ref (E.2.2.1 1), .int (iI (bN false))]))]) (w1 := [(rb, .inr (1, [.int (iI 262144), .ref q0, .int (iI (((out ++ [224 + t / 4096]).length : Nat) : Int))])), (q0, .inl (E.2.1 0, sp_grow cap out.length, .inl f0))]) hP hD [1, 2] [0] rfl rfl (by decide) (by decide) hk1 hFc hP1 hD1
      have hP : va_P E.1 zcl [(h, .inr (6, [.ref en, .ref ca, .ref rb, .ref (E.2.2.1 (mode + 1)), .ref (E.2.2.1 1), .int (iI (bN false))])), (rb, .inr (1, [.int (iI 262144), .ref q0, .int (iI (((out ++ [224 + t / 4096]).length : Nat) : Int))])), (q0, .inl (E.2.1 0, sp_grow cap out.length, .inl f0))] H := hP
      have hD : va_D A [(h, .inr (6, [.ref en, .ref ca, .ref rb, .ref (E.2.2.1 (mode + 1)), .ref (E.2.2.1 1), .int (iI (bN false))])), (rb, .inr (1, [.int (iI 262144), .ref q0, .int (iI (((out ++ [224 + t / 4096]).length : Nat) : Int))])), (q0, .inl (E.2.1 0, sp_grow cap out.length, .inl f0))] := hD
      have hE := hE0.at hS hA0
      obtain ⟨cap0, ec0⟩ : ∃ x, x = sp_grow cap out.length := ⟨_, rfl⟩
      rw [← ec0] at hg0 hc1 hB1 hF1 hP hD
      rw [← ec0]
      refine W.widen (k := (cap0 - cap) / 16) (n := 2 * (cap0 - cap)) (by omega) (by omega) ?_
      refine lv_iload_n hx hb d_Output_put_101 rfl (lv_at hl 0 rfl) ?_
      refine zi_iconst hx hb d_Output_put_102 ?_
      refine zi_isub hx hb d_Output_put_103 ?_
      refine W.eq (g2 := F0 m 104 ls ([.int (iI 1)])) rfl ?_
      refine lv_istore (lv' := [(4, .int (iI 1)), (3, .int (iI 3)), (2, .int (iI ((t : Nat) : Int))), (0, .ref h), (1, .int (iI ((c0 : Nat) : Int)))]) hx hb d_Output_put_104 hl (by decide) rfl (fun ls hl => ?_)
      refine lv_iload hx hb d_Output_put_106 (lv_at hl 0 rfl) ?_
      refine zi_if_lt hx hb d_Output_put_108 rfl (by omega) (fun h108 => absurd h108 (by omega)) (fun h108 => ?_)
      refine lv_aload_n hx hb d_Output_put_111 rfl (lv_at hl 3 rfl) ?_
      refine zgf S hE (ci := 6) rfl i_Output (hP 0 _ rfl) 2 (by decide) zw_156 rfl d_Output_put_112 ?_
      refine zi_sipush hx hb d_Output_put_115 (by decide) ?_
      refine lv_iload_n hx hb d_Output_put_118 rfl (lv_at hl 2 rfl) ?_
      refine zi_bipush hx hb d_Output_put_119 (by decide) ?_
      refine lv_iload hx hb d_Output_put_121 (lv_at hl 0 rfl) ?_
      refine zi_imul hx hb d_Output_put_123 ?_
      refine W.eq (g2 := F0 m 124 ls ([.int (iI 6), .int (iI ((t : Nat) : Int)), .int (iI 128), .ref rb])) rfl ?_
      refine zi_ishr hx hb d_Output_put_124 (iI_shrN 6 6 (by omega) (by omega) (by decide)) ?_
      refine zi_bipush hx hb d_Output_put_125 (by decide) ?_
      refine zi_iand hx hb d_Output_put_127 (iI_mask 6 63 64 (by omega) (by decide) (by decide)) ?_
      refine zi_ior hx hb d_Output_put_128 (iI_orK 128 7 1 (by decide) (by omega) (by omega)) ?_
      have hw1 : (iI (128 + ((((t : Nat) : Int) / 2 ^ 6) % 64))).toInt8.toInt32 = sb_b (128 + t / 64 % 64) := sb_of (by omega) (by omega)
      have hn1 : (out ++ [224 + t / 4096]).length = out.length + 1 := by simp
      have hl1 : (out ++ [224 + t / 4096]).length ≤ cap0 := hB1.1
      have hg1 := sp_grow_up hc1 hl1 (by omega)
      have hm1 : sp_up ((out ++ [224 + t / 4096]).length + 1) ≤ sp_up (out.length + 3) := sp_up_mono (by omega)
      have hc2 : sp_capok (sp_grow cap0 (out ++ [224 + t / 4096]).length) := by rw [hg1]; exact sp_capok_max hc1 (sp_up_ok _)
      have hPc := hP.sub (ws' := [(rb, .inr (1, [.int (iI 262144), .ref q0, .int (iI (((out ++ [224 + t / 4096]).length : Nat) : Int))])), (q0, .inl (E.2.1 0, cap0, .inl f0))]) [1, 2] rfl
      have hDc := hD.sub (ws' := [(rb, .inr (1, [.int (iI 262144), .ref q0, .int (iI (((out ++ [224 + t / 4096]).length : Nat) : Int))])), (q0, .inl (E.2.1 0, cap0, .inl f0))]) [1, 2] (by decide) rfl
      have hFc := va_free (wc := [(rb, .inr (1, [.int (iI 262144), .ref q0, .int (iI (((out ++ [224 + t / 4096]).length : Nat) : Int))])), (q0, .inl (E.2.1 0, cap0, .inl f0))]) hD hS hA [1, 2] rfl
      refine zcW (va_runV (As := [.int (iI (128 + ((((t : Nat) : Int) / 2 ^ 6) % 64)))]) (rest := []) S (c_Row_add l E H.size rb q0 cap0 (128 + t / 64 % 64) 262144 f0 (out ++ [224 + t / 4096]) (iI (128 + ((((t : Nat) : Int) / 2 ^ 6) % 64))) hw1 (by omega) hB1 (by omega) (by omega) (sp_capok_r hc1).1 (sp_capok_r hc1).2.1 hF1) ⟨zcwB (n := 1) S zw_353 zw_2 zw_684 (by decide +kernel) rfl rfl ⟨Nat.le_of_ble_eq_true rfl, Nat.le_of_ble_eq_true rfl⟩, S.2.2.2.2 _ zw_351, S.2.2.2.2 _ zw_352⟩ (zPreV hE (hP 1 _ rfl) rfl ⟨rfl, hPc, hDc.weaken (fun _ _ _ h => hA0 _ h), trivial⟩) rfl rfl hl.1 rfl (lv_room (Nat.le_of_ble_eq_true rfl)) d_Output_put_129 ⟨by (try dsimp only); omega, by (try dsimp only); omega⟩) hS (fun q _ h => hFc q h) hFc (fun v H locs hq hz1 hk1 hS => ?_)
      obtain ⟨rfl, q1, f1, hP1, hD1, hB2, hF2⟩ := hq
      obtain ⟨hP, hD⟩ := va_join (wr := [(h, .inr (6, [.ref en, .ref ca, .ref rb, .ref (E.2.2.1 (mode + 1)), .ref (E.2.2.1 1), .int (iI (bN false))]))]) (w1 := [(rb, .inr (1, [.int (iI 262144), .ref q1, .int (iI ((((out ++ [224 + t / 4096]) ++ [128 + t / 64 % 64]).length : Nat) : Int))])), (q1, .inl (E.2.1 0, sp_grow cap0 (out ++ [224 + t / 4096]).length, .inl f1))]) hP hD [1, 2] [0] rfl rfl (by decide) (by decide) hk1 hFc hP1 hD1
      have hP : va_P E.1 zcl [(h, .inr (6, [.ref en, .ref ca, .ref rb, .ref (E.2.2.1 (mode + 1)), .ref (E.2.2.1 1), .int (iI (bN false))])), (rb, .inr (1, [.int (iI 262144), .ref q1, .int (iI ((((out ++ [224 + t / 4096]) ++ [128 + t / 64 % 64]).length : Nat) : Int))])), (q1, .inl (E.2.1 0, sp_grow cap0 (out ++ [224 + t / 4096]).length, .inl f1))] H := hP
      have hD : va_D A [(h, .inr (6, [.ref en, .ref ca, .ref rb, .ref (E.2.2.1 (mode + 1)), .ref (E.2.2.1 1), .int (iI (bN false))])), (rb, .inr (1, [.int (iI 262144), .ref q1, .int (iI ((((out ++ [224 + t / 4096]) ++ [128 + t / 64 % 64]).length : Nat) : Int))])), (q1, .inl (E.2.1 0, sp_grow cap0 (out ++ [224 + t / 4096]).length, .inl f1))] := hD
      have hE := hE0.at hS hA0
      obtain ⟨cap1, ec1⟩ : ∃ x, x = sp_grow cap0 (out ++ [224 + t / 4096]).length := ⟨_, rfl⟩
      rw [← ec1] at hg1 hc2 hB2 hF2 hP hD
      rw [← ec1]
      refine W.widen (k := (cap1 - cap) / 16) (n := 2 * (cap1 - cap)) (by omega) (by omega) ?_
      refine lv_iinc (k := 0) (v := (iI 0)) (lv' := [(4, .int (iI 0)), (3, .int (iI 3)), (2, .int (iI ((t : Nat) : Int))), (0, .ref h), (1, .int (iI ((c0 : Nat) : Int)))]) hx hb d_Output_put_132 hl rfl (by decide) (by decide) rfl (fun ls hl => ?_)
      refine lv_goto hx hb d_Output_put_135 rfl ?_
      refine lv_iload hx hb d_Output_put_106 (lv_at hl 0 rfl) ?_
      refine zi_if_lt hx hb d_Output_put_108 rfl (by omega) (fun h108 => absurd h108 (by omega)) (fun h108 => ?_)
      refine lv_aload_n hx hb d_Output_put_111 rfl (lv_at hl 3 rfl) ?_
      refine zgf S hE (ci := 6) rfl i_Output (hP 0 _ rfl) 2 (by decide) zw_156 rfl d_Output_put_112 ?_
      refine zi_sipush hx hb d_Output_put_115 (by decide) ?_
      refine lv_iload_n hx hb d_Output_put_118 rfl (lv_at hl 2 rfl) ?_
      refine zi_bipush hx hb d_Output_put_119 (by decide) ?_
      refine lv_iload hx hb d_Output_put_121 (lv_at hl 0 rfl) ?_
      refine zi_imul hx hb d_Output_put_123 ?_
      refine W.eq (g2 := F0 m 124 ls ([.int (iI 0), .int (iI ((t : Nat) : Int)), .int (iI 128), .ref rb])) rfl ?_
      refine zi_ishr hx hb d_Output_put_124 (iI_shrN 0 0 (by omega) (by omega) (by decide)) ?_
      refine zi_bipush hx hb d_Output_put_125 (by decide) ?_
      refine zi_iand hx hb d_Output_put_127 (iI_mask 6 63 64 (by omega) (by decide) (by decide)) ?_
      refine zi_ior hx hb d_Output_put_128 (iI_orK 128 7 1 (by decide) (by omega) (by omega)) ?_
      have hw2 : (iI (128 + ((((t : Nat) : Int) / 2 ^ 0) % 64))).toInt8.toInt32 = sb_b (128 + t % 64) := sb_of (by omega) (by omega)
      have hn2 : ((out ++ [224 + t / 4096]) ++ [128 + t / 64 % 64]).length = out.length + 2 := by simp
      have hl2 : ((out ++ [224 + t / 4096]) ++ [128 + t / 64 % 64]).length ≤ cap1 := hB2.1
      have hg2 := sp_grow_up hc2 hl2 (by omega)
      have hm2 : sp_up (((out ++ [224 + t / 4096]) ++ [128 + t / 64 % 64]).length + 1) ≤ sp_up (out.length + 3) := sp_up_mono (by omega)
      have hc3 : sp_capok (sp_grow cap1 ((out ++ [224 + t / 4096]) ++ [128 + t / 64 % 64]).length) := by rw [hg2]; exact sp_capok_max hc2 (sp_up_ok _)
      have hPc := hP.sub (ws' := [(rb, .inr (1, [.int (iI 262144), .ref q1, .int (iI ((((out ++ [224 + t / 4096]) ++ [128 + t / 64 % 64]).length : Nat) : Int))])), (q1, .inl (E.2.1 0, cap1, .inl f1))]) [1, 2] rfl
      have hDc := hD.sub (ws' := [(rb, .inr (1, [.int (iI 262144), .ref q1, .int (iI ((((out ++ [224 + t / 4096]) ++ [128 + t / 64 % 64]).length : Nat) : Int))])), (q1, .inl (E.2.1 0, cap1, .inl f1))]) [1, 2] (by decide) rfl
      have hFc := va_free (wc := [(rb, .inr (1, [.int (iI 262144), .ref q1, .int (iI ((((out ++ [224 + t / 4096]) ++ [128 + t / 64 % 64]).length : Nat) : Int))])), (q1, .inl (E.2.1 0, cap1, .inl f1))]) hD hS hA [1, 2] rfl
      refine zcW (va_runV (As := [.int (iI (128 + ((((t : Nat) : Int) / 2 ^ 0) % 64)))]) (rest := []) S (c_Row_add l E H.size rb q1 cap1 (128 + t % 64) 262144 f1 ((out ++ [224 + t / 4096]) ++ [128 + t / 64 % 64]) (iI (128 + ((((t : Nat) : Int) / 2 ^ 0) % 64))) hw2 (by omega) hB2 (by omega) (by omega) (sp_capok_r hc2).1 (sp_capok_r hc2).2.1 hF2) ⟨zcwB (n := 1) S zw_353 zw_2 zw_684 (by decide +kernel) rfl rfl ⟨Nat.le_of_ble_eq_true rfl, Nat.le_of_ble_eq_true rfl⟩, S.2.2.2.2 _ zw_351, S.2.2.2.2 _ zw_352⟩ (zPreV hE (hP 1 _ rfl) rfl ⟨rfl, hPc, hDc.weaken (fun _ _ _ h => hA0 _ h), trivial⟩) rfl rfl hl.1 rfl (lv_room (Nat.le_of_ble_eq_true rfl)) d_Output_put_129 ⟨by (try dsimp only); omega, by (try dsimp only); omega⟩) hS (fun q _ h => hFc q h) hFc (fun v H locs hq hz1 hk1 hS => ?_)
      obtain ⟨rfl, q2, f2, hP1, hD1, hB3, hF3⟩ := hq
      obtain ⟨hP, hD⟩ := va_join (wr := [(h, .inr (6, [.ref en, .ref ca, .ref rb, .ref (E.2.2.1 (mode + 1)), .ref (E.2.2.1 1), .int (iI (bN false))]))]) (w1 := [(rb, .inr (1, [.int (iI 262144), .ref q2, .int (iI (((((out ++ [224 + t / 4096]) ++ [128 + t / 64 % 64]) ++ [128 + t % 64]).length : Nat) : Int))])), (q2, .inl (E.2.1 0, sp_grow cap1 ((out ++ [224 + t / 4096]) ++ [128 + t / 64 % 64]).length, .inl f2))]) hP hD [1, 2] [0] rfl rfl (by decide) (by decide) hk1 hFc hP1 hD1
      have hP : va_P E.1 zcl [(h, .inr (6, [.ref en, .ref ca, .ref rb, .ref (E.2.2.1 (mode + 1)), .ref (E.2.2.1 1), .int (iI (bN false))])), (rb, .inr (1, [.int (iI 262144), .ref q2, .int (iI (((((out ++ [224 + t / 4096]) ++ [128 + t / 64 % 64]) ++ [128 + t % 64]).length : Nat) : Int))])), (q2, .inl (E.2.1 0, sp_grow cap1 ((out ++ [224 + t / 4096]) ++ [128 + t / 64 % 64]).length, .inl f2))] H := hP
      have hD : va_D A [(h, .inr (6, [.ref en, .ref ca, .ref rb, .ref (E.2.2.1 (mode + 1)), .ref (E.2.2.1 1), .int (iI (bN false))])), (rb, .inr (1, [.int (iI 262144), .ref q2, .int (iI (((((out ++ [224 + t / 4096]) ++ [128 + t / 64 % 64]) ++ [128 + t % 64]).length : Nat) : Int))])), (q2, .inl (E.2.1 0, sp_grow cap1 ((out ++ [224 + t / 4096]) ++ [128 + t / 64 % 64]).length, .inl f2))] := hD
      have hE := hE0.at hS hA0
      obtain ⟨cap2, ec2⟩ : ∃ x, x = sp_grow cap1 ((out ++ [224 + t / 4096]) ++ [128 + t / 64 % 64]).length := ⟨_, rfl⟩
      rw [← ec2] at hg2 hc3 hB3 hF3 hP hD
      rw [← ec2]
      refine W.widen (k := (cap2 - cap) / 16) (n := 2 * (cap2 - cap)) (by omega) (by omega) ?_
      refine lv_iinc (k := 0) (v := (iI (-1))) (lv' := [(4, .int (iI (-1))), (3, .int (iI 3)), (2, .int (iI ((t : Nat) : Int))), (0, .ref h), (1, .int (iI ((c0 : Nat) : Int)))]) hx hb d_Output_put_132 hl rfl (by decide) (by decide) rfl (fun ls hl => ?_)
      refine lv_goto hx hb d_Output_put_135 rfl ?_
      refine lv_iload hx hb d_Output_put_106 (lv_at hl 0 rfl) ?_
      refine zi_if_lt hx hb d_Output_put_108 rfl (by omega) (fun h108 => ?_) (fun h108 => absurd h108 (by omega))
      have hfin : ((out ++ [224 + t / 4096]) ++ [128 + t / 64 % 64]) ++ [128 + t % 64] = out ++ sp_enc utf t := by simp [henc]
      have hlast : sp_up (out.length + 2 + 1) = sp_up (out.length + 3) := rfl
      have hcf : cap2 = capF := by rw [hn2] at hg2 hm2; omega
      have hP9 := hP.sub (ws' := [(h, .inr (6, [.ref en, .ref ca, .ref rb, .ref (E.2.2.1 (mode + 1)), .ref (E.2.2.1 1), .int (iI (bN false))])), (rb, .inr (1, [.int (iI 262144), .ref q2, .int (iI (((((out ++ [224 + t / 4096]) ++ [128 + t / 64 % 64]) ++ [128 + t % 64]).length : Nat) : Int))])), (q2, .inl (E.2.1 0, cap2, .inl f2))]) [0, 1, 2] rfl
      have hD9 := hD.sub (ws' := [(h, .inr (6, [.ref en, .ref ca, .ref rb, .ref (E.2.2.1 (mode + 1)), .ref (E.2.2.1 1), .int (iI (bN false))])), (rb, .inr (1, [.int (iI 262144), .ref q2, .int (iI (((((out ++ [224 + t / 4096]) ++ [128 + t / 64 % 64]) ++ [128 + t % 64]).length : Nat) : Int))])), (q2, .inl (E.2.1 0, cap2, .inl f2))]) [0, 1, 2] (by decide) rfl
      rw [hfin] at hP9 hD9 hB3
      rw [hcf] at hP9 hD9 hB3 hF3
      rw [hcf]
      exact zwv S hr hlk hS (⟨rfl, q2, f2, hP9, hD9, hB3, hF3⟩) (by (try dsimp only); omega) (by (try dsimp only); omega) d_Output_put_138
    · rw [e4] at hl
      have hl : lv_has ls 5 [(3, .int (iI 4)), (2, .int (iI ((t : Nat) : Int))), (0, .ref h), (1, .int (iI ((c0 : Nat) : Int)))] := hl
      have hr4 : ¬ (utf = false ∨ t < 128) ∧ ¬ t < 2048 ∧ ¬ t < 65536 := by unfold sp_len at e4; split at e4; omega; split at e4; omega; split at e4; omega; exact ⟨by assumption, by assumption, by assumption⟩
      have henc : sp_enc utf t = [240 + t / 262144, 128 + t / 4096 % 64, 128 + t / 64 % 64, 128 + t % 64] := by unfold sp_enc; rw [if_neg hr4.1, if_neg hr4.2.1, if_neg hr4.2.2]
      have hcapF : capF = max cap (sp_up (out.length + 4)) := by rw [hcapF0, List.length_append, sp_enc_len, e4]
      have hB0 := hB
      have hF0 := hF
      have hc0 := hc
      refine lv_iload_n hx hb d_Output_put_66 rfl (lv_at hl 0 rfl) ?_
      refine zi_iconst hx hb d_Output_put_67 ?_
      refine zi_icmp_ne hx hb d_Output_put_68 rfl (by omega) (by omega) (fun h68 => ?_) (fun h => absurd h (by omega))
      refine lv_aload_n hx hb d_Output_put_80 rfl (lv_at hl 2 rfl) ?_
      refine zgf S hE (ci := 6) rfl i_Output (hP 0 _ rfl) 2 (by decide) zw_156 rfl d_Output_put_81 ?_
      refine zi_sipush hx hb d_Output_put_84 (by decide) ?_
      refine lv_iload_n hx hb d_Output_put_87 rfl (lv_at hl 0 rfl) ?_
      refine zi_ishr (r := 240) hx hb d_Output_put_88 (by decide) ?_
      refine lv_iload_n hx hb d_Output_put_89 rfl (lv_at hl 1 rfl) ?_
      refine zi_bipush hx hb d_Output_put_90 (by decide) ?_
      refine lv_iload_n hx hb d_Output_put_92 rfl (lv_at hl 0 rfl) ?_
      refine zi_iconst hx hb d_Output_put_93 ?_
      refine zi_isub hx hb d_Output_put_94 ?_
      refine W.eq (g2 := F0 m 95 ls ([.int (iI 3), .int (iI 6), .int (iI ((t : Nat) : Int)), .int (iI 240), .ref rb])) rfl ?_
      refine zi_imul hx hb d_Output_put_95 ?_
      refine W.eq (g2 := F0 m 96 ls ([.int (iI 18), .int (iI ((t : Nat) : Int)), .int (iI 240), .ref rb])) rfl ?_
      refine zi_ishr hx hb d_Output_put_96 (iI_shrN 18 18 (by omega) (by omega) (by decide)) ?_
      refine zi_ior hx hb d_Output_put_97 (iI_orK 240 4 15 (by decide) (by omega) (by omega)) ?_
      have hw0 : (iI (240 + (((t : Nat) : Int) / 2 ^ 18))).toInt8.toInt32 = sb_b (240 + t / 262144) := sb_of (by omega) (by omega)
      have hn0 : (out).length = out.length + 0 := by simp
      have hl0 : (out).length ≤ cap := hB0.1
      have hg0 := sp_grow_up hc0 hl0 (by omega)
      have hm0 : sp_up ((out).length + 1) ≤ sp_up (out.length + 4) := sp_up_mono (by omega)
      have hc1 : sp_capok (sp_grow cap out.length) := by rw [hg0]; exact sp_capok_max hc0 (sp_up_ok _)
      have hPc := hP.sub (ws' := [(rb, .inr (1, [.int (iI 262144), .ref q, .int (iI ((out.length : Nat) : Int))])), (q, .inl (E.2.1 0, cap, .inl f))]) [1, 2] rfl
      have hDc := hD.sub (ws' := [(rb, .inr (1, [.int (iI 262144), .ref q, .int (iI ((out.length : Nat) : Int))])), (q, .inl (E.2.1 0, cap, .inl f))]) [1, 2] (by decide) rfl
      have hFc := va_free (wc := [(rb, .inr (1, [.int (iI 262144), .ref q, .int (iI ((out.length : Nat) : Int))])), (q, .inl (E.2.1 0, cap, .inl f))]) hD hS hA [1, 2] rfl
      refine zcW (va_runV (As := [.int (iI (240 + (((t : Nat) : Int) / 2 ^ 18)))]) (rest := []) S (c_Row_add l E H.size rb q cap (240 + t / 262144) 262144 f out (iI (240 + (((t : Nat) : Int) / 2 ^ 18))) hw0 (by omega) hB0 (by omega) (by omega) (sp_capok_r hc0).1 (sp_capok_r hc0).2.1 hF0) ⟨zcwB (n := 1) S zw_353 zw_2 zw_684 (by decide +kernel) rfl rfl ⟨Nat.le_of_ble_eq_true rfl, Nat.le_of_ble_eq_true rfl⟩, S.2.2.2.2 _ zw_351, S.2.2.2.2 _ zw_352⟩ (zPreV hE (hP 1 _ rfl) rfl ⟨rfl, hPc, hDc.weaken (fun _ _ _ h => hA0 _ h), trivial⟩) rfl rfl hl.1 rfl (lv_room (Nat.le_of_ble_eq_true rfl)) d_Output_put_98 ⟨by (try dsimp only); omega, by (try dsimp only); omega⟩) hS (fun q _ h => hFc q h) hFc (fun v H locs hq hz1 hk1 hS => ?_)
      obtain ⟨rfl, q0, f0, hP1, hD1, hB1, hF1⟩ := hq
      obtain ⟨hP, hD⟩ := va_join (wr := [(h, .inr (6, [.ref en, .ref ca, .ref rb, .ref (E.2.2.1 (mode + 1)), .ref (E.2.2.1 1), .int (iI (bN false))]))]) (w1 := [(rb, .inr (1, [.int (iI 262144), .ref q0, .int (iI (((out ++ [240 + t / 262144]).length : Nat) : Int))])), (q0, .inl (E.2.1 0, sp_grow cap out.length, .inl f0))]) hP hD [1, 2] [0] rfl rfl (by decide) (by decide) hk1 hFc hP1 hD1
      have hP : va_P E.1 zcl [(h, .inr (6, [.ref en, .ref ca, .ref rb, .ref (E.2.2.1 (mode + 1)), .ref (E.2.2.1 1), .int (iI (bN false))])), (rb, .inr (1, [.int (iI 262144), .ref q0, .int (iI (((out ++ [240 + t / 262144]).length : Nat) : Int))])), (q0, .inl (E.2.1 0, sp_grow cap out.length, .inl f0))] H := hP
      have hD : va_D A [(h, .inr (6, [.ref en, .ref ca, .ref rb, .ref (E.2.2.1 (mode + 1)), .ref (E.2.2.1 1), .int (iI (bN false))])), (rb, .inr (1, [.int (iI 262144), .ref q0, .int (iI (((out ++ [240 + t / 262144]).length : Nat) : Int))])), (q0, .inl (E.2.1 0, sp_grow cap out.length, .inl f0))] := hD
      have hE := hE0.at hS hA0
      obtain ⟨cap0, ec0⟩ : ∃ x, x = sp_grow cap out.length := ⟨_, rfl⟩
      rw [← ec0] at hg0 hc1 hB1 hF1 hP hD
      rw [← ec0]
      refine W.widen (k := (cap0 - cap) / 16) (n := 2 * (cap0 - cap)) (by omega) (by omega) ?_
      refine lv_iload_n hx hb d_Output_put_101 rfl (lv_at hl 0 rfl) ?_
      refine zi_iconst hx hb d_Output_put_102 ?_
      refine zi_isub hx hb d_Output_put_103 ?_
      refine W.eq (g2 := F0 m 104 ls ([.int (iI 2)])) rfl ?_
      refine lv_istore (lv' := [(4, .int (iI 2)), (3, .int (iI 4)), (2, .int (iI ((t : Nat) : Int))), (0, .ref h), (1, .int (iI ((c0 : Nat) : Int)))]) hx hb d_Output_put_104 hl (by decide) rfl (fun ls hl => ?_)
      refine lv_iload hx hb d_Output_put_106 (lv_at hl 0 rfl) ?_
      refine zi_if_lt hx hb d_Output_put_108 rfl (by omega) (fun h108 => absurd h108 (by omega)) (fun h108 => ?_)
      refine lv_aload_n hx hb d_Output_put_111 rfl (lv_at hl 3 rfl) ?_
      refine zgf S hE (ci := 6) rfl i_Output (hP 0 _ rfl) 2 (by decide) zw_156 rfl d_Output_put_112 ?_
      refine zi_sipush hx hb d_Output_put_115 (by decide) ?_
      refine lv_iload_n hx hb d_Output_put_118 rfl (lv_at hl 2 rfl) ?_
      refine zi_bipush hx hb d_Output_put_119 (by decide) ?_
      refine lv_iload hx hb d_Output_put_121 (lv_at hl 0 rfl) ?_
      refine zi_imul hx hb d_Output_put_123 ?_
      refine W.eq (g2 := F0 m 124 ls ([.int (iI 12), .int (iI ((t : Nat) : Int)), .int (iI 128), .ref rb])) rfl ?_
      refine zi_ishr hx hb d_Output_put_124 (iI_shrN 12 12 (by omega) (by omega) (by decide)) ?_
      refine zi_bipush hx hb d_Output_put_125 (by decide) ?_
      refine zi_iand hx hb d_Output_put_127 (iI_mask 6 63 64 (by omega) (by decide) (by decide)) ?_
      refine zi_ior hx hb d_Output_put_128 (iI_orK 128 7 1 (by decide) (by omega) (by omega)) ?_
      have hw1 : (iI (128 + ((((t : Nat) : Int) / 2 ^ 12) % 64))).toInt8.toInt32 = sb_b (128 + t / 4096 % 64) := sb_of (by omega) (by omega)
      have hn1 : (out ++ [240 + t / 262144]).length = out.length + 1 := by simp
      have hl1 : (out ++ [240 + t / 262144]).length ≤ cap0 := hB1.1
      have hg1 := sp_grow_up hc1 hl1 (by omega)
      have hm1 : sp_up ((out ++ [240 + t / 262144]).length + 1) ≤ sp_up (out.length + 4) := sp_up_mono (by omega)
      have hc2 : sp_capok (sp_grow cap0 (out ++ [240 + t / 262144]).length) := by rw [hg1]; exact sp_capok_max hc1 (sp_up_ok _)
      have hPc := hP.sub (ws' := [(rb, .inr (1, [.int (iI 262144), .ref q0, .int (iI (((out ++ [240 + t / 262144]).length : Nat) : Int))])), (q0, .inl (E.2.1 0, cap0, .inl f0))]) [1, 2] rfl
      have hDc := hD.sub (ws' := [(rb, .inr (1, [.int (iI 262144), .ref q0, .int (iI (((out ++ [240 + t / 262144]).length : Nat) : Int))])), (q0, .inl (E.2.1 0, cap0, .inl f0))]) [1, 2] (by decide) rfl
      have hFc := va_free (wc := [(rb, .inr (1, [.int (iI 262144), .ref q0, .int (iI (((out ++ [240 + t / 262144]).length : Nat) : Int))])), (q0, .inl (E.2.1 0, cap0, .inl f0))]) hD hS hA [1, 2] rfl
      refine zcW (va_runV (As := [.int (iI (128 + ((((t : Nat) : Int) / 2 ^ 12) % 64)))]) (rest := []) S (c_Row_add l E H.size rb q0 cap0 (128 + t / 4096 % 64) 262144 f0 (out ++ [240 + t / 262144]) (iI (128 + ((((t : Nat) : Int) / 2 ^ 12) % 64))) hw1 (by omega) hB1 (by omega) (by omega) (sp_capok_r hc1).1 (sp_capok_r hc1).2.1 hF1) ⟨zcwB (n := 1) S zw_353 zw_2 zw_684 (by decide +kernel) rfl rfl ⟨Nat.le_of_ble_eq_true rfl, Nat.le_of_ble_eq_true rfl⟩, S.2.2.2.2 _ zw_351, S.2.2.2.2 _ zw_352⟩ (zPreV hE (hP 1 _ rfl) rfl ⟨rfl, hPc, hDc.weaken (fun _ _ _ h => hA0 _ h), trivial⟩) rfl rfl hl.1 rfl (lv_room (Nat.le_of_ble_eq_true rfl)) d_Output_put_129 ⟨by (try dsimp only); omega, by (try dsimp only); omega⟩) hS (fun q _ h => hFc q h) hFc (fun v H locs hq hz1 hk1 hS => ?_)
      obtain ⟨rfl, q1, f1, hP1, hD1, hB2, hF2⟩ := hq
      obtain ⟨hP, hD⟩ := va_join (wr := [(h, .inr (6, [.ref en, .ref ca, .ref rb, .ref (E.2.2.1 (mode + 1)), .ref (E.2.2.1 1), .int (iI (bN false))]))]) (w1 := [(rb, .inr (1, [.int (iI 262144), .ref q1, .int (iI ((((out ++ [240 + t / 262144]) ++ [128 + t / 4096 % 64]).length : Nat) : Int))])), (q1, .inl (E.2.1 0, sp_grow cap0 (out ++ [240 + t / 262144]).length, .inl f1))]) hP hD [1, 2] [0] rfl rfl (by decide) (by decide) hk1 hFc hP1 hD1
      have hP : va_P E.1 zcl [(h, .inr (6, [.ref en, .ref ca, .ref rb, .ref (E.2.2.1 (mode + 1)), .ref (E.2.2.1 1), .int (iI (bN false))])), (rb, .inr (1, [.int (iI 262144), .ref q1, .int (iI ((((out ++ [240 + t / 262144]) ++ [128 + t / 4096 % 64]).length : Nat) : Int))])), (q1, .inl (E.2.1 0, sp_grow cap0 (out ++ [240 + t / 262144]).length, .inl f1))] H := hP
      have hD : va_D A [(h, .inr (6, [.ref en, .ref ca, .ref rb, .ref (E.2.2.1 (mode + 1)), .ref (E.2.2.1 1), .int (iI (bN false))])), (rb, .inr (1, [.int (iI 262144), .ref q1, .int (iI ((((out ++ [240 + t / 262144]) ++ [128 + t / 4096 % 64]).length : Nat) : Int))])), (q1, .inl (E.2.1 0, sp_grow cap0 (out ++ [240 + t / 262144]).length, .inl f1))] := hD
      have hE := hE0.at hS hA0
      obtain ⟨cap1, ec1⟩ : ∃ x, x = sp_grow cap0 (out ++ [240 + t / 262144]).length := ⟨_, rfl⟩
      rw [← ec1] at hg1 hc2 hB2 hF2 hP hD
      rw [← ec1]
      refine W.widen (k := (cap1 - cap) / 16) (n := 2 * (cap1 - cap)) (by omega) (by omega) ?_
      refine lv_iinc (k := 0) (v := (iI 1)) (lv' := [(4, .int (iI 1)), (3, .int (iI 4)), (2, .int (iI ((t : Nat) : Int))), (0, .ref h), (1, .int (iI ((c0 : Nat) : Int)))]) hx hb d_Output_put_132 hl rfl (by decide) (by decide) rfl (fun ls hl => ?_)
      refine lv_goto hx hb d_Output_put_135 rfl ?_
      refine lv_iload hx hb d_Output_put_106 (lv_at hl 0 rfl) ?_
      refine zi_if_lt hx hb d_Output_put_108 rfl (by omega) (fun h108 => absurd h108 (by omega)) (fun h108 => ?_)
      refine lv_aload_n hx hb d_Output_put_111 rfl (lv_at hl 3 rfl) ?_
      refine zgf S hE (ci := 6) rfl i_Output (hP 0 _ rfl) 2 (by decide) zw_156 rfl d_Output_put_112 ?_
      refine zi_sipush hx hb d_Output_put_115 (by decide) ?_
      refine lv_iload_n hx hb d_Output_put_118 rfl (lv_at hl 2 rfl) ?_
      refine zi_bipush hx hb d_Output_put_119 (by decide) ?_
      refine lv_iload hx hb d_Output_put_121 (lv_at hl 0 rfl) ?_
      refine zi_imul hx hb d_Output_put_123 ?_
      refine W.eq (g2 := F0 m 124 ls ([.int (iI 6), .int (iI ((t : Nat) : Int)), .int (iI 128), .ref rb])) rfl ?_
      refine zi_ishr hx hb d_Output_put_124 (iI_shrN 6 6 (by omega) (by omega) (by decide)) ?_
      refine zi_bipush hx hb d_Output_put_125 (by decide) ?_
      refine zi_iand hx hb d_Output_put_127 (iI_mask 6 63 64 (by omega) (by decide) (by decide)) ?_
      refine zi_ior hx hb d_Output_put_128 (iI_orK 128 7 1 (by decide) (by omega) (by omega)) ?_
      have hw2 : (iI (128 + ((((t : Nat) : Int) / 2 ^ 6) % 64))).toInt8.toInt32 = sb_b (128 + t / 64 % 64) := sb_of (by omega) (by omega)
      have hn2 : ((out ++ [240 + t / 262144]) ++ [128 + t / 4096 % 64]).length = out.length + 2 := by simp
      have hl2 : ((out ++ [240 + t / 262144]) ++ [128 + t / 4096 % 64]).length ≤ cap1 := hB2.1
      have hg2 := sp_grow_up hc2 hl2 (by omega)
      have hm2 : sp_up (((out ++ [240 + t / 262144]) ++ [128 + t / 4096 % 64]).length + 1) ≤ sp_up (out.length + 4) := sp_up_mono (by omega)
      have hc3 : sp_capok (sp_grow cap1 ((out ++ [240 + t / 262144]) ++ [128 + t / 4096 % 64]).length) := by rw [hg2]; exact sp_capok_max hc2 (sp_up_ok _)
      have hPc := hP.sub (ws' := [(rb, .inr (1, [.int (iI 262144), .ref q1, .int (iI ((((out ++ [240 + t / 262144]) ++ [128 + t / 4096 % 64]).length : Nat) : Int))])), (q1, .inl (E.2.1 0, cap1, .inl f1))]) [1, 2] rfl
      have hDc := hD.sub (ws' := [(rb, .inr (1, [.int (iI 262144), .ref q1, .int (iI ((((out ++ [240 + t / 262144]) ++ [128 + t / 4096 % 64]).length : Nat) : Int))])), (q1, .inl (E.2.1 0, cap1, .inl f1))]) [1, 2] (by decide) rfl
      have hFc := va_free (wc := [(rb, .inr (1, [.int (iI 262144), .ref q1, .int (iI ((((out ++ [240 + t / 262144]) ++ [128 + t / 4096 % 64]).length : Nat) : Int))])), (q1, .inl (E.2.1 0, cap1, .inl f1))]) hD hS hA [1, 2] rfl
      refine zcW (va_runV (As := [.int (iI (128 + ((((t : Nat) : Int) / 2 ^ 6) % 64)))]) (rest := []) S (c_Row_add l E H.size rb q1 cap1 (128 + t / 64 % 64) 262144 f1 ((out ++ [240 + t / 262144]) ++ [128 + t / 4096 % 64]) (iI (128 + ((((t : Nat) : Int) / 2 ^ 6) % 64))) hw2 (by omega) hB2 (by omega) (by omega) (sp_capok_r hc2).1 (sp_capok_r hc2).2.1 hF2) ⟨zcwB (n := 1) S zw_353 zw_2 zw_684 (by decide +kernel) rfl rfl ⟨Nat.le_of_ble_eq_true rfl, Nat.le_of_ble_eq_true rfl⟩, S.2.2.2.2 _ zw_351, S.2.2.2.2 _ zw_352⟩ (zPreV hE (hP 1 _ rfl) rfl ⟨rfl, hPc, hDc.weaken (fun _ _ _ h => hA0 _ h), trivial⟩) rfl rfl hl.1 rfl (lv_room (Nat.le_of_ble_eq_true rfl)) d_Output_put_129 ⟨by (try dsimp only); omega, by (try dsimp only); omega⟩) hS (fun q _ h => hFc q h) hFc (fun v H locs hq hz1 hk1 hS => ?_)
      obtain ⟨rfl, q2, f2, hP1, hD1, hB3, hF3⟩ := hq
      obtain ⟨hP, hD⟩ := va_join (wr := [(h, .inr (6, [.ref en, .ref ca, .ref rb, .ref (E.2.2.1 (mode + 1)), .ref (E.2.2.1 1), .int (iI (bN false))]))]) (w1 := [(rb, .inr (1, [.int (iI 262144), .ref q2, .int (iI (((((out ++ [240 + t / 262144]) ++ [128 + t / 4096 % 64]) ++ [128 + t / 64 % 64]).length : Nat) : Int))])), (q2, .inl (E.2.1 0, sp_grow cap1 ((out ++ [240 + t / 262144]) ++ [128 + t / 4096 % 64]).length, .inl f2))]) hP hD [1, 2] [0] rfl rfl (by decide) (by decide) hk1 hFc hP1 hD1
      have hP : va_P E.1 zcl [(h, .inr (6, [.ref en, .ref ca, .ref rb, .ref (E.2.2.1 (mode + 1)), .ref (E.2.2.1 1), .int (iI (bN false))])), (rb, .inr (1, [.int (iI 262144), .ref q2, .int (iI (((((out ++ [240 + t / 262144]) ++ [128 + t / 4096 % 64]) ++ [128 + t / 64 % 64]).length : Nat) : Int))])), (q2, .inl (E.2.1 0, sp_grow cap1 ((out ++ [240 + t / 262144]) ++ [128 + t / 4096 % 64]).length, .inl f2))] H := hP
      have hD : va_D A [(h, .inr (6, [.ref en, .ref ca, .ref rb, .ref (E.2.2.1 (mode + 1)), .ref (E.2.2.1 1), .int (iI (bN false))])), (rb, .inr (1, [.int (iI 262144), .ref q2, .int (iI (((((out ++ [240 + t / 262144]) ++ [128 + t / 4096 % 64]) ++ [128 + t / 64 % 64]).length : Nat) : Int))])), (q2, .inl (E.2.1 0, sp_grow cap1 ((out ++ [240 + t / 262144]) ++ [128 + t / 4096 % 64]).length, .inl f2))] := hD
      have hE := hE0.at hS hA0
      obtain ⟨cap2, ec2⟩ : ∃ x, x = sp_grow cap1 ((out ++ [240 + t / 262144]) ++ [128 + t / 4096 % 64]).length := ⟨_, rfl⟩
      rw [← ec2] at hg2 hc3 hB3 hF3 hP hD
      rw [← ec2]
      refine W.widen (k := (cap2 - cap) / 16) (n := 2 * (cap2 - cap)) (by omega) (by omega) ?_
      refine lv_iinc (k := 0) (v := (iI 0)) (lv' := [(4, .int (iI 0)), (3, .int (iI 4)), (2, .int (iI ((t : Nat) : Int))), (0, .ref h), (1, .int (iI ((c0 : Nat) : Int)))]) hx hb d_Output_put_132 hl rfl (by decide) (by decide) rfl (fun ls hl => ?_)
      refine lv_goto hx hb d_Output_put_135 rfl ?_
      refine lv_iload hx hb d_Output_put_106 (lv_at hl 0 rfl) ?_
      refine zi_if_lt hx hb d_Output_put_108 rfl (by omega) (fun h108 => absurd h108 (by omega)) (fun h108 => ?_)
      refine lv_aload_n hx hb d_Output_put_111 rfl (lv_at hl 3 rfl) ?_
      refine zgf S hE (ci := 6) rfl i_Output (hP 0 _ rfl) 2 (by decide) zw_156 rfl d_Output_put_112 ?_
      refine zi_sipush hx hb d_Output_put_115 (by decide) ?_
      refine lv_iload_n hx hb d_Output_put_118 rfl (lv_at hl 2 rfl) ?_
      refine zi_bipush hx hb d_Output_put_119 (by decide) ?_
      refine lv_iload hx hb d_Output_put_121 (lv_at hl 0 rfl) ?_
      refine zi_imul hx hb d_Output_put_123 ?_
      refine W.eq (g2 := F0 m 124 ls ([.int (iI 0), .int (iI ((t : Nat) : Int)), .int (iI 128), .ref rb])) rfl ?_
      refine zi_ishr hx hb d_Output_put_124 (iI_shrN 0 0 (by omega) (by omega) (by decide)) ?_
      refine zi_bipush hx hb d_Output_put_125 (by decide) ?_
      refine zi_iand hx hb d_Output_put_127 (iI_mask 6 63 64 (by omega) (by decide) (by decide)) ?_
      refine zi_ior hx hb d_Output_put_128 (iI_orK 128 7 1 (by decide) (by omega) (by omega)) ?_
      have hw3 : (iI (128 + ((((t : Nat) : Int) / 2 ^ 0) % 64))).toInt8.toInt32 = sb_b (128 + t % 64) := sb_of (by omega) (by omega)
      have hn3 : (((out ++ [240 + t / 262144]) ++ [128 + t / 4096 % 64]) ++ [128 + t / 64 % 64]).length = out.length + 3 := by simp
      have hl3 : (((out ++ [240 + t / 262144]) ++ [128 + t / 4096 % 64]) ++ [128 + t / 64 % 64]).length ≤ cap2 := hB3.1
      have hg3 := sp_grow_up hc3 hl3 (by omega)
      have hm3 : sp_up ((((out ++ [240 + t / 262144]) ++ [128 + t / 4096 % 64]) ++ [128 + t / 64 % 64]).length + 1) ≤ sp_up (out.length + 4) := sp_up_mono (by omega)
      have hc4 : sp_capok (sp_grow cap2 (((out ++ [240 + t / 262144]) ++ [128 + t / 4096 % 64]) ++ [128 + t / 64 % 64]).length) := by rw [hg3]; exact sp_capok_max hc3 (sp_up_ok _)
      have hPc := hP.sub (ws' := [(rb, .inr (1, [.int (iI 262144), .ref q2, .int (iI (((((out ++ [240 + t / 262144]) ++ [128 + t / 4096 % 64]) ++ [128 + t / 64 % 64]).length : Nat) : Int))])), (q2, .inl (E.2.1 0, cap2, .inl f2))]) [1, 2] rfl
      have hDc := hD.sub (ws' := [(rb, .inr (1, [.int (iI 262144), .ref q2, .int (iI (((((out ++ [240 + t / 262144]) ++ [128 + t / 4096 % 64]) ++ [128 + t / 64 % 64]).length : Nat) : Int))])), (q2, .inl (E.2.1 0, cap2, .inl f2))]) [1, 2] (by decide) rfl
      have hFc := va_free (wc := [(rb, .inr (1, [.int (iI 262144), .ref q2, .int (iI (((((out ++ [240 + t / 262144]) ++ [128 + t / 4096 % 64]) ++ [128 + t / 64 % 64]).length : Nat) : Int))])), (q2, .inl (E.2.1 0, cap2, .inl f2))]) hD hS hA [1, 2] rfl
      refine zcW (va_runV (As := [.int (iI (128 + ((((t : Nat) : Int) / 2 ^ 0) % 64)))]) (rest := []) S (c_Row_add l E H.size rb q2 cap2 (128 + t % 64) 262144 f2 (((out ++ [240 + t / 262144]) ++ [128 + t / 4096 % 64]) ++ [128 + t / 64 % 64]) (iI (128 + ((((t : Nat) : Int) / 2 ^ 0) % 64))) hw3 (by omega) hB3 (by omega) (by omega) (sp_capok_r hc3).1 (sp_capok_r hc3).2.1 hF3) ⟨zcwB (n := 1) S zw_353 zw_2 zw_684 (by decide +kernel) rfl rfl ⟨Nat.le_of_ble_eq_true rfl, Nat.le_of_ble_eq_true rfl⟩, S.2.2.2.2 _ zw_351, S.2.2.2.2 _ zw_352⟩ (zPreV hE (hP 1 _ rfl) rfl ⟨rfl, hPc, hDc.weaken (fun _ _ _ h => hA0 _ h), trivial⟩) rfl rfl hl.1 rfl (lv_room (Nat.le_of_ble_eq_true rfl)) d_Output_put_129 ⟨by (try dsimp only); omega, by (try dsimp only); omega⟩) hS (fun q _ h => hFc q h) hFc (fun v H locs hq hz1 hk1 hS => ?_)
      obtain ⟨rfl, q3, f3, hP1, hD1, hB4, hF4⟩ := hq
      obtain ⟨hP, hD⟩ := va_join (wr := [(h, .inr (6, [.ref en, .ref ca, .ref rb, .ref (E.2.2.1 (mode + 1)), .ref (E.2.2.1 1), .int (iI (bN false))]))]) (w1 := [(rb, .inr (1, [.int (iI 262144), .ref q3, .int (iI ((((((out ++ [240 + t / 262144]) ++ [128 + t / 4096 % 64]) ++ [128 + t / 64 % 64]) ++ [128 + t % 64]).length : Nat) : Int))])), (q3, .inl (E.2.1 0, sp_grow cap2 (((out ++ [240 + t / 262144]) ++ [128 + t / 4096 % 64]) ++ [128 + t / 64 % 64]).length, .inl f3))]) hP hD [1, 2] [0] rfl rfl (by decide) (by decide) hk1 hFc hP1 hD1
      have hP : va_P E.1 zcl [(h, .inr (6, [.ref en, .ref ca, .ref rb, .ref (E.2.2.1 (mode + 1)), .ref (E.2.2.1 1), .int (iI (bN false))])), (rb, .inr (1, [.int (iI 262144), .ref q3, .int (iI ((((((out ++ [240 + t / 262144]) ++ [128 + t / 4096 % 64]) ++ [128 + t / 64 % 64]) ++ [128 + t % 64]).length : Nat) : Int))])), (q3, .inl (E.2.1 0, sp_grow cap2 (((out ++ [240 + t / 262144]) ++ [128 + t / 4096 % 64]) ++ [128 + t / 64 % 64]).length, .inl f3))] H := hP
      have hD : va_D A [(h, .inr (6, [.ref en, .ref ca, .ref rb, .ref (E.2.2.1 (mode + 1)), .ref (E.2.2.1 1), .int (iI (bN false))])), (rb, .inr (1, [.int (iI 262144), .ref q3, .int (iI ((((((out ++ [240 + t / 262144]) ++ [128 + t / 4096 % 64]) ++ [128 + t / 64 % 64]) ++ [128 + t % 64]).length : Nat) : Int))])), (q3, .inl (E.2.1 0, sp_grow cap2 (((out ++ [240 + t / 262144]) ++ [128 + t / 4096 % 64]) ++ [128 + t / 64 % 64]).length, .inl f3))] := hD
      have hE := hE0.at hS hA0
      obtain ⟨cap3, ec3⟩ : ∃ x, x = sp_grow cap2 (((out ++ [240 + t / 262144]) ++ [128 + t / 4096 % 64]) ++ [128 + t / 64 % 64]).length := ⟨_, rfl⟩
      rw [← ec3] at hg3 hc4 hB4 hF4 hP hD
      rw [← ec3]
      refine W.widen (k := (cap3 - cap) / 16) (n := 2 * (cap3 - cap)) (by omega) (by omega) ?_
      refine lv_iinc (k := 0) (v := (iI (-1))) (lv' := [(4, .int (iI (-1))), (3, .int (iI 4)), (2, .int (iI ((t : Nat) : Int))), (0, .ref h), (1, .int (iI ((c0 : Nat) : Int)))]) hx hb d_Output_put_132 hl rfl (by decide) (by decide) rfl (fun ls hl => ?_)
      refine lv_goto hx hb d_Output_put_135 rfl ?_
      refine lv_iload hx hb d_Output_put_106 (lv_at hl 0 rfl) ?_
      refine zi_if_lt hx hb d_Output_put_108 rfl (by omega) (fun h108 => ?_) (fun h108 => absurd h108 (by omega))
      have hfin : (((out ++ [240 + t / 262144]) ++ [128 + t / 4096 % 64]) ++ [128 + t / 64 % 64]) ++ [128 + t % 64] = out ++ sp_enc utf t := by simp [henc]
      have hlast : sp_up (out.length + 3 + 1) = sp_up (out.length + 4) := rfl
      have hcf : cap3 = capF := by rw [hn3] at hg3 hm3; omega
      have hP9 := hP.sub (ws' := [(h, .inr (6, [.ref en, .ref ca, .ref rb, .ref (E.2.2.1 (mode + 1)), .ref (E.2.2.1 1), .int (iI (bN false))])), (rb, .inr (1, [.int (iI 262144), .ref q3, .int (iI ((((((out ++ [240 + t / 262144]) ++ [128 + t / 4096 % 64]) ++ [128 + t / 64 % 64]) ++ [128 + t % 64]).length : Nat) : Int))])), (q3, .inl (E.2.1 0, cap3, .inl f3))]) [0, 1, 2] rfl
      have hD9 := hD.sub (ws' := [(h, .inr (6, [.ref en, .ref ca, .ref rb, .ref (E.2.2.1 (mode + 1)), .ref (E.2.2.1 1), .int (iI (bN false))])), (rb, .inr (1, [.int (iI 262144), .ref q3, .int (iI ((((((out ++ [240 + t / 262144]) ++ [128 + t / 4096 % 64]) ++ [128 + t / 64 % 64]) ++ [128 + t % 64]).length : Nat) : Int))])), (q3, .inl (E.2.1 0, cap3, .inl f3))]) [0, 1, 2] (by decide) rfl
      rw [hfin] at hP9 hD9 hB4
      rw [hcf] at hP9 hD9 hB4 hF4
      rw [hcf]
      exact zwv S hr hlk hS (⟨rfl, q3, f3, hP9, hD9, hB4, hF4⟩) (by (try dsimp only); omega) (by (try dsimp only); omega) d_Output_put_138
  · have ho : once = 0 := (hE.turns honce (b := 0) (by omega)).mp h12
    refine lv_aload_n hx hb d_Output_put_15 rfl (lv_at hl 0 rfl) ?_
    refine zgf S hE (ci := 6) rfl i_Output (hP 0 _ rfl) 3 (by decide) zw_157 rfl d_Output_put_16 ?_
    refine lv_goto hx hb d_Output_put_19 rfl ?_
    refine zcR (va_runV (As := [.int (iI ((c0 : Nat) : Int)), .ref (E.2.2.1 (mode + 1))]) (rest := []) S (c_Cases_turned l E ca (sp_many utf ucp) c0 mode (sp_many_le utf ucp) (by omega) hmode) ⟨zcwB (n := 2) S zw_675 zw_9 zw_672 (by decide +kernel) rfl rfl ⟨Nat.le_of_ble_eq_true rfl, Nat.le_of_ble_eq_true rfl⟩, S.2.2.2.2 _ zw_673, S.2.2.2.2 _ zw_674⟩ (zPreV hE (zfz hS hca (hAZ _ hzc)) rfl (zfz hS hca (hAZ _ hzc))) rfl rfl hl.1 rfl (lv_room (Nat.le_of_ble_eq_true rfl)) d_Output_put_26 ⟨by (try dsimp only); omega, by (try dsimp only); omega⟩) ?_
    rw [sp_case_eq hok, ← (show t = sp_case utf ucp mode c0 by rw [ht, hhow]; rw [if_pos ho])]
    refine lv_istore_n (lv' := [(2, .int (iI ((t : Nat) : Int))), (0, .ref h), (1, .int (iI ((c0 : Nat) : Int)))]) hx hb d_Output_put_29 rfl hl (by decide) rfl (fun ls hl => ?_)
    refine lv_aload_n hx hb d_Output_put_30 rfl (lv_at hl 1 rfl) ?_
    refine zgs S hE.asis zw_152 d_Output_put_31 ?_
    refine va_put (D := E.1) (ci := 6) (v := .ref (E.2.2.1 1)) (ty := .object "ReplacementWriter$Turn") (C := "ReplacementWriter$Output") (T := F_Output) (N := 6) hx hb S.2.2.2.2 i_Output t_Output t_Output_ok n_Output S.2.2.2.1 hE.1 hP hD hS 0 rfl rfl 4 (by decide) (S.2.2.2.2 _ zw_158) (fun _ h9 => h9) rfl (by decide +kernel) rfl rfl (Nat.le_of_ble_eq_true rfl) d_Output_put_34 (fun H locs hP hD hS => ?_)
    have hP : va_P E.1 zcl [(h, .inr (6, [.ref en, .ref ca, .ref rb, .ref (E.2.2.1 (mode + 1)), .ref (E.2.2.1 1), .int (iI (bN false))])), (rb, .inr (1, [.int (iI 262144), .ref q, .int (iI ((out.length : Nat) : Int))])), (q, .inl (E.2.1 0, cap, .inl f))] H := hP
    have hD : va_D A [(h, .inr (6, [.ref en, .ref ca, .ref rb, .ref (E.2.2.1 (mode + 1)), .ref (E.2.2.1 1), .int (iI (bN false))])), (rb, .inr (1, [.int (iI 262144), .ref q, .int (iI ((out.length : Nat) : Int))])), (q, .inl (E.2.1 0, cap, .inl f))] := hD
    have hE := hE0.at hS hA0
    refine lv_aload_n hx hb d_Output_put_37 rfl (lv_at hl 1 rfl) ?_
    refine zgf S hE (ci := 6) rfl i_Output (hP 0 _ rfl) 0 (by decide) zw_154 rfl d_Output_put_38 ?_
    refine lv_iload_n hx hb d_Output_put_41 rfl (lv_at hl 0 rfl) ?_
    refine zcR (va_runV (As := [.int (iI ((t : Nat) : Int))]) (rest := []) S (c_Encoding_lengthOf l E en utf t (by omega)) ⟨zcwB (n := 1) S zw_457 zw_7 zw_682 (by decide +kernel) rfl rfl ⟨Nat.le_of_ble_eq_true rfl, Nat.le_of_ble_eq_true rfl⟩, S.2.2.2.2 _ zw_455, S.2.2.2.2 _ zw_456⟩ (zPreV hE (zfz hS hen (hAZ _ hze)) rfl (zfz hS hen (hAZ _ hze))) rfl rfl hl.1 rfl (lv_room (Nat.le_of_ble_eq_true rfl)) d_Output_put_42 ⟨by (try dsimp only); omega, by (try dsimp only); omega⟩) ?_
    have hb42 := sp_len_le utf t
    refine lv_istore_n (lv' := [(3, .int (iI ((sp_len utf t : Nat) : Int))), (2, .int (iI ((t : Nat) : Int))), (0, .ref h), (1, .int (iI ((c0 : Nat) : Int)))]) hx hb d_Output_put_45 rfl hl (by decide) rfl (fun ls hl => ?_)
    refine lv_aload_n hx hb d_Output_put_46 rfl (lv_at hl 2 rfl) ?_
    refine zgf S hE (ci := 6) rfl i_Output (hP 0 _ rfl) 2 (by decide) zw_156 rfl d_Output_put_47 ?_
    refine zcR (va_runV (As := []) (rest := []) S (c_Row_length l E rb out) ⟨zcwB (n := 0) S zw_258 zw_2 zw_683 (by decide +kernel) rfl rfl ⟨Nat.le_of_ble_eq_true rfl, Nat.le_of_ble_eq_true rfl⟩, S.2.2.2.2 _ zw_256, S.2.2.2.2 _ zw_257⟩ (zPreVrow hE (zrow.of (hP 1 _ rfl) (hP 2 _ rfl) hB) (zrow.of (hP 1 _ rfl) (hP 2 _ rfl) hB)) rfl rfl hl.1 rfl (lv_room (Nat.le_of_ble_eq_true rfl)) d_Output_put_50 ⟨by (try dsimp only); omega, by (try dsimp only); omega⟩) ?_
    refine lv_iload_n hx hb d_Output_put_53 rfl (lv_at hl 0 rfl) ?_
    refine zi_iadd hx hb d_Output_put_54 ?_
    refine zldc (n := 262144) S zw_150 (by decide) d_Output_put_55 ?_
    refine zi_icmp_le hx hb d_Output_put_57 rfl (by omega) (by omega) (fun h57 => ?_) (fun h => absurd h (by omega))
    have h4 : sp_len utf t = 1 ∨ sp_len utf t = 2 ∨ sp_len utf t = 3 ∨ sp_len utf t = 4 := by omega
    rcases h4 with e4 | e4 | e4 | e4
    · rw [e4] at hl
      have hl : lv_has ls 5 [(3, .int (iI 1)), (2, .int (iI ((t : Nat) : Int))), (0, .ref h), (1, .int (iI ((c0 : Nat) : Int)))] := hl
      have hr4 : utf = false ∨ t < 128 := by unfold sp_len at e4; split at e4; assumption; split at e4 <;> (try split at e4) <;> omega
      have henc : sp_enc utf t = [t] := by unfold sp_enc; rw [if_pos hr4]
      have hcapF : capF = max cap (sp_up (out.length + 1)) := by rw [hcapF0, List.length_append, sp_enc_len, e4]
      have ht8 : t < 256 := by rcases hr4 with q | q; exact hlt.2 q; omega
      have hB0 := hB
      have hF0 := hF
      have hc0 := hc
      refine lv_iload_n hx hb d_Output_put_66 rfl (lv_at hl 0 rfl) ?_
      refine zi_iconst hx hb d_Output_put_67 ?_
      refine zi_icmp_ne hx hb d_Output_put_68 rfl (by omega) (by omega) (fun h => absurd h (by omega)) (fun h68 => ?_)
      refine lv_aload_n hx hb d_Output_put_71 rfl (lv_at hl 2 rfl) ?_
      refine zgf S hE (ci := 6) rfl i_Output (hP 0 _ rfl) 2 (by decide) zw_156 rfl d_Output_put_72 ?_
      refine lv_iload_n hx hb d_Output_put_75 rfl (lv_at hl 1 rfl) ?_
      have hw0 : (iI ((t : Nat) : Int)).toInt8.toInt32 = sb_b (t) := sb_of (by omega) (by omega)
      have hn0 : (out).length = out.length + 0 := by simp
      have hl0 : (out).length ≤ cap := hB0.1
      have hg0 := sp_grow_up hc0 hl0 (by omega)
      have hm0 : sp_up ((out).length + 1) ≤ sp_up (out.length + 1) := sp_up_mono (by omega)
      have hc1 : sp_capok (sp_grow cap out.length) := by rw [hg0]; exact sp_capok_max hc0 (sp_up_ok _)
      have hPc := hP.sub (ws' := [(rb, .inr (1, [.int (iI 262144), .ref q, .int (iI ((out.length : Nat) : Int))])), (q, .inl (E.2.1 0, cap, .inl f))]) [1, 2] rfl
      have hDc := hD.sub (ws' := [(rb, .inr (1, [.int (iI 262144), .ref q, .int (iI ((out.length : Nat) : Int))])), (q, .inl (E.2.1 0, cap, .inl f))]) [1, 2] (by decide) rfl
      have hFc := va_free (wc := [(rb, .inr (1, [.int (iI 262144), .ref q, .int (iI ((out.length : Nat) : Int))])), (q, .inl (E.2.1 0, cap, .inl f))]) hD hS hA [1, 2] rfl
      refine zcW (va_runV (As := [.int (iI ((t : Nat) : Int))]) (rest := []) S (c_Row_add l E H.size rb q cap (t) 262144 f out (iI ((t : Nat) : Int)) hw0 (by omega) hB0 (by omega) (by omega) (sp_capok_r hc0).1 (sp_capok_r hc0).2.1 hF0) ⟨zcwB (n := 1) S zw_353 zw_2 zw_684 (by decide +kernel) rfl rfl ⟨Nat.le_of_ble_eq_true rfl, Nat.le_of_ble_eq_true rfl⟩, S.2.2.2.2 _ zw_351, S.2.2.2.2 _ zw_352⟩ (zPreV hE (hP 1 _ rfl) rfl ⟨rfl, hPc, hDc.weaken (fun _ _ _ h => hA0 _ h), trivial⟩) rfl rfl hl.1 rfl (lv_room (Nat.le_of_ble_eq_true rfl)) d_Output_put_76 ⟨by (try dsimp only); omega, by (try dsimp only); omega⟩) hS (fun q _ h => hFc q h) hFc (fun v H locs hq hz1 hk1 hS => ?_)
      obtain ⟨rfl, q0, f0, hP1, hD1, hB1, hF1⟩ := hq
      obtain ⟨hP, hD⟩ := va_join (wr := [(h, .inr (6, [.ref en, .ref ca, .ref rb, .ref (E.2.2.1 (mode + 1)), .ref (E.2.2.1 1), .int (iI (bN false))]))]) (w1 := [(rb, .inr (1, [.int (iI 262144), .ref q0, .int (iI (((out ++ [t]).length : Nat) : Int))])), (q0, .inl (E.2.1 0, sp_grow cap out.length, .inl f0))]) hP hD [1, 2] [0] rfl rfl (by decide) (by decide) hk1 hFc hP1 hD1
      have hP : va_P E.1 zcl [(h, .inr (6, [.ref en, .ref ca, .ref rb, .ref (E.2.2.1 (mode + 1)), .ref (E.2.2.1 1), .int (iI (bN false))])), (rb, .inr (1, [.int (iI 262144), .ref q0, .int (iI (((out ++ [t]).length : Nat) : Int))])), (q0, .inl (E.2.1 0, sp_grow cap out.length, .inl f0))] H := hP
      have hD : va_D A [(h, .inr (6, [.ref en, .ref ca, .ref rb, .ref (E.2.2.1 (mode + 1)), .ref (E.2.2.1 1), .int (iI (bN false))])), (rb, .inr (1, [.int (iI 262144), .ref q0, .int (iI (((out ++ [t]).length : Nat) : Int))])), (q0, .inl (E.2.1 0, sp_grow cap out.length, .inl f0))] := hD
      have hE := hE0.at hS hA0
      obtain ⟨cap0, ec0⟩ : ∃ x, x = sp_grow cap out.length := ⟨_, rfl⟩
      rw [← ec0] at hg0 hc1 hB1 hF1 hP hD
      rw [← ec0]
      refine W.widen (k := (cap0 - cap) / 16) (n := 2 * (cap0 - cap)) (by omega) (by omega) ?_
      have hfin : out ++ [t] = out ++ sp_enc utf t := by simp [henc]
      have hlast : sp_up (out.length + 0 + 1) = sp_up (out.length + 1) := rfl
      have hcf : cap0 = capF := by rw [hn0] at hg0 hm0; omega
      have hP9 := hP.sub (ws' := [(h, .inr (6, [.ref en, .ref ca, .ref rb, .ref (E.2.2.1 (mode + 1)), .ref (E.2.2.1 1), .int (iI (bN false))])), (rb, .inr (1, [.int (iI 262144), .ref q0, .int (iI (((out ++ [t]).length : Nat) : Int))])), (q0, .inl (E.2.1 0, cap0, .inl f0))]) [0, 1, 2] rfl
      have hD9 := hD.sub (ws' := [(h, .inr (6, [.ref en, .ref ca, .ref rb, .ref (E.2.2.1 (mode + 1)), .ref (E.2.2.1 1), .int (iI (bN false))])), (rb, .inr (1, [.int (iI 262144), .ref q0, .int (iI (((out ++ [t]).length : Nat) : Int))])), (q0, .inl (E.2.1 0, cap0, .inl f0))]) [0, 1, 2] (by decide) rfl
      rw [hfin] at hP9 hD9 hB1
      rw [hcf] at hP9 hD9 hB1 hF1
      rw [hcf]
      exact zwv S hr hlk hS (⟨rfl, q0, f0, hP9, hD9, hB1, hF1⟩) (by (try dsimp only); omega) (by (try dsimp only); omega) d_Output_put_79
    · rw [e4] at hl
      have hl : lv_has ls 5 [(3, .int (iI 2)), (2, .int (iI ((t : Nat) : Int))), (0, .ref h), (1, .int (iI ((c0 : Nat) : Int)))] := hl
      have hr4 : ¬ (utf = false ∨ t < 128) ∧ t < 2048 := by unfold sp_len at e4; split at e4; omega; split at e4; constructor <;> assumption; split at e4 <;> omega
      have henc : sp_enc utf t = [192 + t / 64, 128 + t % 64] := by unfold sp_enc; rw [if_neg hr4.1, if_pos hr4.2]
      have hcapF : capF = max cap (sp_up (out.length + 2)) := by rw [hcapF0, List.length_append, sp_enc_len, e4]
      have hB0 := hB
      have hF0 := hF
      have hc0 := hc
      refine lv_iload_n hx hb d_Output_put_66 rfl (lv_at hl 0 rfl) ?_
      refine zi_iconst hx hb d_Output_put_67 ?_
      refine zi_icmp_ne hx hb d_Output_put_68 rfl (by omega) (by omega) (fun h68 => ?_) (fun h => absurd h (by omega))
      refine lv_aload_n hx hb d_Output_put_80 rfl (lv_at hl 2 rfl) ?_
      refine zgf S hE (ci := 6) rfl i_Output (hP 0 _ rfl) 2 (by decide) zw_156 rfl d_Output_put_81 ?_
      refine zi_sipush hx hb d_Output_put_84 (by decide) ?_
      refine lv_iload_n hx hb d_Output_put_87 rfl (lv_at hl 0 rfl) ?_
      refine zi_ishr (r := 960) hx hb d_Output_put_88 (by decide) ?_
      refine lv_iload_n hx hb d_Output_put_89 rfl (lv_at hl 1 rfl) ?_
      refine zi_bipush hx hb d_Output_put_90 (by decide) ?_
      refine lv_iload_n hx hb d_Output_put_92 rfl (lv_at hl 0 rfl) ?_
      refine zi_iconst hx hb d_Output_put_93 ?_
      refine zi_isub hx hb d_Output_put_94 ?_
      refine W.eq (g2 := F0 m 95 ls ([.int (iI 1), .int (iI 6), .int (iI ((t : Nat) : Int)), .int (iI 960), .ref rb])) rfl ?_
      refine zi_imul hx hb d_Output_put_95 ?_
      refine W.eq (g2 := F0 m 96 ls ([.int (iI 6), .int (iI ((t : Nat) : Int)), .int (iI 960), .ref rb])) rfl ?_
      refine zi_ishr hx hb d_Output_put_96 (iI_shrN 6 6 (by omega) (by omega) (by decide)) ?_
      refine zi_ior hx hb d_Output_put_97 (iI_orK 960 6 15 (by decide) (by omega) (by omega)) ?_
      have hw0 : (iI (960 + (((t : Nat) : Int) / 2 ^ 6))).toInt8.toInt32 = sb_b (192 + t / 64) := sb_of (by omega) (by omega)
      have hn0 : (out).length = out.length + 0 := by simp
      have hl0 : (out).length ≤ cap := hB0.1
      have hg0 := sp_grow_up hc0 hl0 (by omega)
      have hm0 : sp_up ((out).length + 1) ≤ sp_up (out.length + 2) := sp_up_mono (by omega)
      have hc1 : sp_capok (sp_grow cap out.length) := by rw [hg0]; exact sp_capok_max hc0 (sp_up_ok _)
      have hPc := hP.sub (ws' := [(rb, .inr (1, [.int (iI 262144), .ref q, .int (iI ((out.length : Nat) : Int))])), (q, .inl (E.2.1 0, cap, .inl f))]) [1, 2] rfl
      have hDc := hD.sub (ws' := [(rb, .inr (1, [.int (iI 262144), .ref q, .int (iI ((out.length : Nat) : Int))])), (q, .inl (E.2.1 0, cap, .inl f))]) [1, 2] (by decide) rfl
      have hFc := va_free (wc := [(rb, .inr (1, [.int (iI 262144), .ref q, .int (iI ((out.length : Nat) : Int))])), (q, .inl (E.2.1 0, cap, .inl f))]) hD hS hA [1, 2] rfl
      refine zcW (va_runV (As := [.int (iI (960 + (((t : Nat) : Int) / 2 ^ 6)))]) (rest := []) S (c_Row_add l E H.size rb q cap (192 + t / 64) 262144 f out (iI (960 + (((t : Nat) : Int) / 2 ^ 6))) hw0 (by omega) hB0 (by omega) (by omega) (sp_capok_r hc0).1 (sp_capok_r hc0).2.1 hF0) ⟨zcwB (n := 1) S zw_353 zw_2 zw_684 (by decide +kernel) rfl rfl ⟨Nat.le_of_ble_eq_true rfl, Nat.le_of_ble_eq_true rfl⟩, S.2.2.2.2 _ zw_351, S.2.2.2.2 _ zw_352⟩ (zPreV hE (hP 1 _ rfl) rfl ⟨rfl, hPc, hDc.weaken (fun _ _ _ h => hA0 _ h), trivial⟩) rfl rfl hl.1 rfl (lv_room (Nat.le_of_ble_eq_true rfl)) d_Output_put_98 ⟨by (try dsimp only); omega, by (try dsimp only); omega⟩) hS (fun q _ h => hFc q h) hFc (fun v H locs hq hz1 hk1 hS => ?_)
      obtain ⟨rfl, q0, f0, hP1, hD1, hB1, hF1⟩ := hq
      obtain ⟨hP, hD⟩ := va_join (wr := [(h, .inr (6, [.ref en, .ref ca, .ref rb, .ref (E.2.2.1 (mode + 1)), .ref (E.2.2.1 1), .int (iI (bN false))]))]) (w1 := [(rb, .inr (1, [.int (iI 262144), .ref q0, .int (iI (((out ++ [192 + t / 64]).length : Nat) : Int))])), (q0, .inl (E.2.1 0, sp_grow cap out.length, .inl f0))]) hP hD [1, 2] [0] rfl rfl (by decide) (by decide) hk1 hFc hP1 hD1
      have hP : va_P E.1 zcl [(h, .inr (6, [.ref en, .ref ca, .ref rb, .ref (E.2.2.1 (mode + 1)), .ref (E.2.2.1 1), .int (iI (bN false))])), (rb, .inr (1, [.int (iI 262144), .ref q0, .int (iI (((out ++ [192 + t / 64]).length : Nat) : Int))])), (q0, .inl (E.2.1 0, sp_grow cap out.length, .inl f0))] H := hP
      have hD : va_D A [(h, .inr (6, [.ref en, .ref ca, .ref rb, .ref (E.2.2.1 (mode + 1)), .ref (E.2.2.1 1), .int (iI (bN false))])), (rb, .inr (1, [.int (iI 262144), .ref q0, .int (iI (((out ++ [192 + t / 64]).length : Nat) : Int))])), (q0, .inl (E.2.1 0, sp_grow cap out.length, .inl f0))] := hD
      have hE := hE0.at hS hA0
      obtain ⟨cap0, ec0⟩ : ∃ x, x = sp_grow cap out.length := ⟨_, rfl⟩
      rw [← ec0] at hg0 hc1 hB1 hF1 hP hD
      rw [← ec0]
      refine W.widen (k := (cap0 - cap) / 16) (n := 2 * (cap0 - cap)) (by omega) (by omega) ?_
      refine lv_iload_n hx hb d_Output_put_101 rfl (lv_at hl 0 rfl) ?_
      refine zi_iconst hx hb d_Output_put_102 ?_
      refine zi_isub hx hb d_Output_put_103 ?_
      refine W.eq (g2 := F0 m 104 ls ([.int (iI 0)])) rfl ?_
      refine lv_istore (lv' := [(4, .int (iI 0)), (3, .int (iI 2)), (2, .int (iI ((t : Nat) : Int))), (0, .ref h), (1, .int (iI ((c0 : Nat) : Int)))]) hx hb d_Output_put_104 hl (by decide) rfl (fun ls hl => ?_)
      refine lv_iload hx hb d_Output_put_106 (lv_at hl 0 rfl) ?_
      refine zi_if_lt hx hb d_Output_put_108 rfl (by omega) (fun h108 => absurd h108 (by omega)) (fun h108 => ?_)
      refine lv_aload_n hx hb d_Output_put_111 rfl (lv_at hl 3 rfl) ?_
      refine zgf S hE (ci := 6) rfl i_Output (hP 0 _ rfl) 2 (by decide) zw_156 rfl d_Output_put_112 ?_
      refine zi_sipush hx hb d_Output_put_115 (by decide) ?_
      refine lv_iload_n hx hb d_Output_put_118 rfl (lv_at hl 2 rfl) ?_
      refine zi_bipush hx hb d_Output_put_119 (by decide) ?_
      refine lv_iload hx hb d_Output_put_121 (lv_at hl 0 rfl) ?_
      refine zi_imul hx hb d_Output_put_123 ?_
      refine W.eq (g2 := F0 m 124 ls ([.int (iI 0), .int (iI ((t : Nat) : Int)), .int (iI 128), .ref rb])) rfl ?_
      refine zi_ishr hx hb d_Output_put_124 (iI_shrN 0 0 (by omega) (by omega) (by decide)) ?_
      refine zi_bipush hx hb d_Output_put_125 (by decide) ?_
      refine zi_iand hx hb d_Output_put_127 (iI_mask 6 63 64 (by omega) (by decide) (by decide)) ?_
      refine zi_ior hx hb d_Output_put_128 (iI_orK 128 7 1 (by decide) (by omega) (by omega)) ?_
      have hw1 : (iI (128 + ((((t : Nat) : Int) / 2 ^ 0) % 64))).toInt8.toInt32 = sb_b (128 + t % 64) := sb_of (by omega) (by omega)
      have hn1 : (out ++ [192 + t / 64]).length = out.length + 1 := by simp
      have hl1 : (out ++ [192 + t / 64]).length ≤ cap0 := hB1.1
      have hg1 := sp_grow_up hc1 hl1 (by omega)
      have hm1 : sp_up ((out ++ [192 + t / 64]).length + 1) ≤ sp_up (out.length + 2) := sp_up_mono (by omega)
      have hc2 : sp_capok (sp_grow cap0 (out ++ [192 + t / 64]).length) := by rw [hg1]; exact sp_capok_max hc1 (sp_up_ok _)
      have hPc := hP.sub (ws' := [(rb, .inr (1, [.int (iI 262144), .ref q0, .int (iI (((out ++ [192 + t / 64]).length : Nat) : Int))])), (q0, .inl (E.2.1 0, cap0, .inl f0))]) [1, 2] rfl
      have hDc := hD.sub (ws' := [(rb, .inr (1, [.int (iI 262144), .ref q0, .int (iI (((out ++ [192 + t / 64]).length : Nat) : Int))])), (q0, .inl (E.2.1 0, cap0, .inl f0))]) [1, 2] (by decide) rfl
      have hFc := va_free (wc := [(rb, .inr (1, [.int (iI 262144), .ref q0, .int (iI (((out ++ [192 + t / 64]).length : Nat) : Int))])), (q0, .inl (E.2.1 0, cap0, .inl f0))]) hD hS hA [1, 2] rfl
      refine zcW (va_runV (As := [.int (iI (128 + ((((t : Nat) : Int) / 2 ^ 0) % 64)))]) (rest := []) S (c_Row_add l E H.size rb q0 cap0 (128 + t % 64) 262144 f0 (out ++ [192 + t / 64]) (iI (128 + ((((t : Nat) : Int) / 2 ^ 0) % 64))) hw1 (by omega) hB1 (by omega) (by omega) (sp_capok_r hc1).1 (sp_capok_r hc1).2.1 hF1) ⟨zcwB (n := 1) S zw_353 zw_2 zw_684 (by decide +kernel) rfl rfl ⟨Nat.le_of_ble_eq_true rfl, Nat.le_of_ble_eq_true rfl⟩, S.2.2.2.2 _ zw_351, S.2.2.2.2 _ zw_352⟩ (zPreV hE (hP 1 _ rfl) rfl ⟨rfl, hPc, hDc.weaken (fun _ _ _ h => hA0 _ h), trivial⟩) rfl rfl hl.1 rfl (lv_room (Nat.le_of_ble_eq_true rfl)) d_Output_put_129 ⟨by (try dsimp only); omega, by (try dsimp only); omega⟩) hS (fun q _ h => hFc q h) hFc (fun v H locs hq hz1 hk1 hS => ?_)
      obtain ⟨rfl, q1, f1, hP1, hD1, hB2, hF2⟩ := hq
      obtain ⟨hP, hD⟩ := va_join (wr := [(h, .inr (6, [.ref en, .ref ca, .ref rb, .ref (E.2.2.1 (mode + 1)), .ref (E.2.2.1 1), .int (iI (bN false))]))]) (w1 := [(rb, .inr (1, [.int (iI 262144), .ref q1, .int (iI ((((out ++ [192 + t / 64]) ++ [128 + t % 64]).length : Nat) : Int))])), (q1, .inl (E.2.1 0, sp_grow cap0 (out ++ [192 + t / 64]).length, .inl f1))]) hP hD [1, 2] [0] rfl rfl (by decide) (by decide) hk1 hFc hP1 hD1
      have hP : va_P E.1 zcl [(h, .inr (6, [.ref en, .ref ca, .ref rb, .ref (E.2.2.1 (mode + 1)), .ref (E.2.2.1 1), .int (iI (bN false))])), (rb, .inr (1, [.int (iI 262144), .ref q1, .int (iI ((((out ++ [192 + t / 64]) ++ [128 + t % 64]).length : Nat) : Int))])), (q1, .inl (E.2.1 0, sp_grow cap0 (out ++ [192 + t / 64]).length, .inl f1))] H := hP
      have hD : va_D A [(h, .inr (6, [.ref en, .ref ca, .ref rb, .ref (E.2.2.1 (mode + 1)), .ref (E.2.2.1 1), .int (iI (bN false))])), (rb, .inr (1, [.int (iI 262144), .ref q1, .int (iI ((((out ++ [192 + t / 64]) ++ [128 + t % 64]).length : Nat) : Int))])), (q1, .inl (E.2.1 0, sp_grow cap0 (out ++ [192 + t / 64]).length, .inl f1))] := hD
      have hE := hE0.at hS hA0
      obtain ⟨cap1, ec1⟩ : ∃ x, x = sp_grow cap0 (out ++ [192 + t / 64]).length := ⟨_, rfl⟩
      rw [← ec1] at hg1 hc2 hB2 hF2 hP hD
      rw [← ec1]
      refine W.widen (k := (cap1 - cap) / 16) (n := 2 * (cap1 - cap)) (by omega) (by omega) ?_
      refine lv_iinc (k := 0) (v := (iI (-1))) (lv' := [(4, .int (iI (-1))), (3, .int (iI 2)), (2, .int (iI ((t : Nat) : Int))), (0, .ref h), (1, .int (iI ((c0 : Nat) : Int)))]) hx hb d_Output_put_132 hl rfl (by decide) (by decide) rfl (fun ls hl => ?_)
      refine lv_goto hx hb d_Output_put_135 rfl ?_
      refine lv_iload hx hb d_Output_put_106 (lv_at hl 0 rfl) ?_
      refine zi_if_lt hx hb d_Output_put_108 rfl (by omega) (fun h108 => ?_) (fun h108 => absurd h108 (by omega))
      have hfin : (out ++ [192 + t / 64]) ++ [128 + t % 64] = out ++ sp_enc utf t := by simp [henc]
      have hlast : sp_up (out.length + 1 + 1) = sp_up (out.length + 2) := rfl
      have hcf : cap1 = capF := by rw [hn1] at hg1 hm1; omega
      have hP9 := hP.sub (ws' := [(h, .inr (6, [.ref en, .ref ca, .ref rb, .ref (E.2.2.1 (mode + 1)), .ref (E.2.2.1 1), .int (iI (bN false))])), (rb, .inr (1, [.int (iI 262144), .ref q1, .int (iI ((((out ++ [192 + t / 64]) ++ [128 + t % 64]).length : Nat) : Int))])), (q1, .inl (E.2.1 0, cap1, .inl f1))]) [0, 1, 2] rfl
      have hD9 := hD.sub (ws' := [(h, .inr (6, [.ref en, .ref ca, .ref rb, .ref (E.2.2.1 (mode + 1)), .ref (E.2.2.1 1), .int (iI (bN false))])), (rb, .inr (1, [.int (iI 262144), .ref q1, .int (iI ((((out ++ [192 + t / 64]) ++ [128 + t % 64]).length : Nat) : Int))])), (q1, .inl (E.2.1 0, cap1, .inl f1))]) [0, 1, 2] (by decide) rfl
      rw [hfin] at hP9 hD9 hB2
      rw [hcf] at hP9 hD9 hB2 hF2
      rw [hcf]
      exact zwv S hr hlk hS (⟨rfl, q1, f1, hP9, hD9, hB2, hF2⟩) (by (try dsimp only); omega) (by (try dsimp only); omega) d_Output_put_138
    · rw [e4] at hl
      have hl : lv_has ls 5 [(3, .int (iI 3)), (2, .int (iI ((t : Nat) : Int))), (0, .ref h), (1, .int (iI ((c0 : Nat) : Int)))] := hl
      have hr4 : ¬ (utf = false ∨ t < 128) ∧ ¬ t < 2048 ∧ t < 65536 := by unfold sp_len at e4; split at e4; omega; split at e4; omega; split at e4; exact ⟨by assumption, by assumption, by assumption⟩; omega
      have henc : sp_enc utf t = [224 + t / 4096, 128 + t / 64 % 64, 128 + t % 64] := by unfold sp_enc; rw [if_neg hr4.1, if_neg hr4.2.1, if_pos hr4.2.2]
      have hcapF : capF = max cap (sp_up (out.length + 3)) := by rw [hcapF0, List.length_append, sp_enc_len, e4]
      have hB0 := hB
      have hF0 := hF
      have hc0 := hc
      refine lv_iload_n hx hb d_Output_put_66 rfl (lv_at hl 0 rfl) ?_
      refine zi_iconst hx hb d_Output_put_67 ?_
      refine zi_icmp_ne hx hb d_Output_put_68 rfl (by omega) (by omega) (fun h68 => ?_) (fun h => absurd h (by omega))
      refine lv_aload_n hx hb d_Output_put_80 rfl (lv_at hl 2 rfl) ?_
      refine zgf S hE (ci := 6) rfl i_Output (hP 0 _ rfl) 2 (by decide) zw_156 rfl d_Output_put_81 ?_
      refine zi_sipush hx hb d_Output_put_84 (by decide) ?_
      refine lv_iload_n hx hb d_Output_put_87 rfl (lv_at hl 0 rfl) ?_
      refine zi_ishr (r := 480) hx hb d_Output_put_88 (by decide) ?_
      refine lv_iload_n hx hb d_Output_put_89 rfl (lv_at hl 1 rfl) ?_
      refine zi_bipush hx hb d_Output_put_90 (by decide) ?_
      refine lv_iload_n hx hb d_Output_put_92 rfl (lv_at hl 0 rfl) ?_
      refine zi_iconst hx hb d_Output_put_93 ?_
      refine zi_isub hx hb d_Output_put_94 ?_
      refine W.eq (g2 := F0 m 95 ls ([.int (iI 2), .int (iI 6), .int (iI ((t : Nat) : Int)), .int (iI 480), .ref rb])) rfl ?_
      refine zi_imul hx hb d_Output_put_95 ?_
      refine W.eq (g2 := F0 m 96 ls ([.int (iI 12), .int (iI ((t : Nat) : Int)), .int (iI 480), .ref rb])) rfl ?_
      refine zi_ishr hx hb d_Output_put_96 (iI_shrN 12 12 (by omega) (by omega) (by decide)) ?_
      refine zi_ior hx hb d_Output_put_97 (iI_orK 480 5 15 (by decide) (by omega) (by omega)) ?_
      have hw0 : (iI (480 + (((t : Nat) : Int) / 2 ^ 12))).toInt8.toInt32 = sb_b (224 + t / 4096) := sb_of (by omega) (by omega)
      have hn0 : (out).length = out.length + 0 := by simp
      have hl0 : (out).length ≤ cap := hB0.1
      have hg0 := sp_grow_up hc0 hl0 (by omega)
      have hm0 : sp_up ((out).length + 1) ≤ sp_up (out.length + 3) := sp_up_mono (by omega)
      have hc1 : sp_capok (sp_grow cap out.length) := by rw [hg0]; exact sp_capok_max hc0 (sp_up_ok _)
      have hPc := hP.sub (ws' := [(rb, .inr (1, [.int (iI 262144), .ref q, .int (iI ((out.length : Nat) : Int))])), (q, .inl (E.2.1 0, cap, .inl f))]) [1, 2] rfl
      have hDc := hD.sub (ws' := [(rb, .inr (1, [.int (iI 262144), .ref q, .int (iI ((out.length : Nat) : Int))])), (q, .inl (E.2.1 0, cap, .inl f))]) [1, 2] (by decide) rfl
      have hFc := va_free (wc := [(rb, .inr (1, [.int (iI 262144), .ref q, .int (iI ((out.length : Nat) : Int))])), (q, .inl (E.2.1 0, cap, .inl f))]) hD hS hA [1, 2] rfl
      refine zcW (va_runV (As := [.int (iI (480 + (((t : Nat) : Int) / 2 ^ 12)))]) (rest := []) S (c_Row_add l E H.size rb q cap (224 + t / 4096) 262144 f out (iI (480 + (((t : Nat) : Int) / 2 ^ 12))) hw0 (by omega) hB0 (by omega) (by omega) (sp_capok_r hc0).1 (sp_capok_r hc0).2.1 hF0) ⟨zcwB (n := 1) S zw_353 zw_2 zw_684 (by decide +kernel) rfl rfl ⟨Nat.le_of_ble_eq_true rfl, Nat.le_of_ble_eq_true rfl⟩, S.2.2.2.2 _ zw_351, S.2.2.2.2 _ zw_352⟩ (zPreV hE (hP 1 _ rfl) rfl ⟨rfl, hPc, hDc.weaken (fun _ _ _ h => hA0 _ h), trivial⟩) rfl rfl hl.1 rfl (lv_room (Nat.le_of_ble_eq_true rfl)) d_Output_put_98 ⟨by (try dsimp only); omega, by (try dsimp only); omega⟩) hS (fun q _ h => hFc q h) hFc (fun v H locs hq hz1 hk1 hS => ?_)
      obtain ⟨rfl, q0, f0, hP1, hD1, hB1, hF1⟩ := hq
      obtain ⟨hP, hD⟩ := va_join (wr := [(h, .inr (6, [.ref en, .ref ca, .ref rb, .ref (E.2.2.1 (mode + 1)), .ref (E.2.2.1 1), .int (iI (bN false))]))]) (w1 := [(rb, .inr (1, [.int (iI 262144), .ref q0, .int (iI (((out ++ [224 + t / 4096]).length : Nat) : Int))])), (q0, .inl (E.2.1 0, sp_grow cap out.length, .inl f0))]) hP hD [1, 2] [0] rfl rfl (by decide) (by decide) hk1 hFc hP1 hD1
      have hP : va_P E.1 zcl [(h, .inr (6, [.ref en, .ref ca, .ref rb, .ref (E.2.2.1 (mode + 1)), .ref (E.2.2.1 1), .int (iI (bN false))])), (rb, .inr (1, [.int (iI 262144), .ref q0, .int (iI (((out ++ [224 + t / 4096]).length : Nat) : Int))])), (q0, .inl (E.2.1 0, sp_grow cap out.length, .inl f0))] H := hP
      have hD : va_D A [(h, .inr (6, [.ref en, .ref ca, .ref rb, .ref (E.2.2.1 (mode + 1)), .ref (E.2.2.1 1), .int (iI (bN false))])), (rb, .inr (1, [.int (iI 262144), .ref q0, .int (iI (((out ++ [224 + t / 4096]).length : Nat) : Int))])), (q0, .inl (E.2.1 0, sp_grow cap out.length, .inl f0))] := hD
      have hE := hE0.at hS hA0
      obtain ⟨cap0, ec0⟩ : ∃ x, x = sp_grow cap out.length := ⟨_, rfl⟩
      rw [← ec0] at hg0 hc1 hB1 hF1 hP hD
      rw [← ec0]
      refine W.widen (k := (cap0 - cap) / 16) (n := 2 * (cap0 - cap)) (by omega) (by omega) ?_
      refine lv_iload_n hx hb d_Output_put_101 rfl (lv_at hl 0 rfl) ?_
      refine zi_iconst hx hb d_Output_put_102 ?_
      refine zi_isub hx hb d_Output_put_103 ?_
      refine W.eq (g2 := F0 m 104 ls ([.int (iI 1)])) rfl ?_
      refine lv_istore (lv' := [(4, .int (iI 1)), (3, .int (iI 3)), (2, .int (iI ((t : Nat) : Int))), (0, .ref h), (1, .int (iI ((c0 : Nat) : Int)))]) hx hb d_Output_put_104 hl (by decide) rfl (fun ls hl => ?_)
      refine lv_iload hx hb d_Output_put_106 (lv_at hl 0 rfl) ?_
      refine zi_if_lt hx hb d_Output_put_108 rfl (by omega) (fun h108 => absurd h108 (by omega)) (fun h108 => ?_)
      refine lv_aload_n hx hb d_Output_put_111 rfl (lv_at hl 3 rfl) ?_
      refine zgf S hE (ci := 6) rfl i_Output (hP 0 _ rfl) 2 (by decide) zw_156 rfl d_Output_put_112 ?_
      refine zi_sipush hx hb d_Output_put_115 (by decide) ?_
      refine lv_iload_n hx hb d_Output_put_118 rfl (lv_at hl 2 rfl) ?_
      refine zi_bipush hx hb d_Output_put_119 (by decide) ?_
      refine lv_iload hx hb d_Output_put_121 (lv_at hl 0 rfl) ?_
      refine zi_imul hx hb d_Output_put_123 ?_
      refine W.eq (g2 := F0 m 124 ls ([.int (iI 6), .int (iI ((t : Nat) : Int)), .int (iI 128), .ref rb])) rfl ?_
      refine zi_ishr hx hb d_Output_put_124 (iI_shrN 6 6 (by omega) (by omega) (by decide)) ?_
      refine zi_bipush hx hb d_Output_put_125 (by decide) ?_
      refine zi_iand hx hb d_Output_put_127 (iI_mask 6 63 64 (by omega) (by decide) (by decide)) ?_
      refine zi_ior hx hb d_Output_put_128 (iI_orK 128 7 1 (by decide) (by omega) (by omega)) ?_
      have hw1 : (iI (128 + ((((t : Nat) : Int) / 2 ^ 6) % 64))).toInt8.toInt32 = sb_b (128 + t / 64 % 64) := sb_of (by omega) (by omega)
      have hn1 : (out ++ [224 + t / 4096]).length = out.length + 1 := by simp
      have hl1 : (out ++ [224 + t / 4096]).length ≤ cap0 := hB1.1
      have hg1 := sp_grow_up hc1 hl1 (by omega)
      have hm1 : sp_up ((out ++ [224 + t / 4096]).length + 1) ≤ sp_up (out.length + 3) := sp_up_mono (by omega)
      have hc2 : sp_capok (sp_grow cap0 (out ++ [224 + t / 4096]).length) := by rw [hg1]; exact sp_capok_max hc1 (sp_up_ok _)
      have hPc := hP.sub (ws' := [(rb, .inr (1, [.int (iI 262144), .ref q0, .int (iI (((out ++ [224 + t / 4096]).length : Nat) : Int))])), (q0, .inl (E.2.1 0, cap0, .inl f0))]) [1, 2] rfl
      have hDc := hD.sub (ws' := [(rb, .inr (1, [.int (iI 262144), .ref q0, .int (iI (((out ++ [224 + t / 4096]).length : Nat) : Int))])), (q0, .inl (E.2.1 0, cap0, .inl f0))]) [1, 2] (by decide) rfl
      have hFc := va_free (wc := [(rb, .inr (1, [.int (iI 262144), .ref q0, .int (iI (((out ++ [224 + t / 4096]).length : Nat) : Int))])), (q0, .inl (E.2.1 0, cap0, .inl f0))]) hD hS hA [1, 2] rfl
      refine zcW (va_runV (As := [.int (iI (128 + ((((t : Nat) : Int) / 2 ^ 6) % 64)))]) (rest := []) S (c_Row_add l E H.size rb q0 cap0 (128 + t / 64 % 64) 262144 f0 (out ++ [224 + t / 4096]) (iI (128 + ((((t : Nat) : Int) / 2 ^ 6) % 64))) hw1 (by omega) hB1 (by omega) (by omega) (sp_capok_r hc1).1 (sp_capok_r hc1).2.1 hF1) ⟨zcwB (n := 1) S zw_353 zw_2 zw_684 (by decide +kernel) rfl rfl ⟨Nat.le_of_ble_eq_true rfl, Nat.le_of_ble_eq_true rfl⟩, S.2.2.2.2 _ zw_351, S.2.2.2.2 _ zw_352⟩ (zPreV hE (hP 1 _ rfl) rfl ⟨rfl, hPc, hDc.weaken (fun _ _ _ h => hA0 _ h), trivial⟩) rfl rfl hl.1 rfl (lv_room (Nat.le_of_ble_eq_true rfl)) d_Output_put_129 ⟨by (try dsimp only); omega, by (try dsimp only); omega⟩) hS (fun q _ h => hFc q h) hFc (fun v H locs hq hz1 hk1 hS => ?_)
      obtain ⟨rfl, q1, f1, hP1, hD1, hB2, hF2⟩ := hq
      obtain ⟨hP, hD⟩ := va_join (wr := [(h, .inr (6, [.ref en, .ref ca, .ref rb, .ref (E.2.2.1 (mode + 1)), .ref (E.2.2.1 1), .int (iI (bN false))]))]) (w1 := [(rb, .inr (1, [.int (iI 262144), .ref q1, .int (iI ((((out ++ [224 + t / 4096]) ++ [128 + t / 64 % 64]).length : Nat) : Int))])), (q1, .inl (E.2.1 0, sp_grow cap0 (out ++ [224 + t / 4096]).length, .inl f1))]) hP hD [1, 2] [0] rfl rfl (by decide) (by decide) hk1 hFc hP1 hD1
      have hP : va_P E.1 zcl [(h, .inr (6, [.ref en, .ref ca, .ref rb, .ref (E.2.2.1 (mode + 1)), .ref (E.2.2.1 1), .int (iI (bN false))])), (rb, .inr (1, [.int (iI 262144), .ref q1, .int (iI ((((out ++ [224 + t / 4096]) ++ [128 + t / 64 % 64]).length : Nat) : Int))])), (q1, .inl (E.2.1 0, sp_grow cap0 (out ++ [224 + t / 4096]).length, .inl f1))] H := hP
      have hD : va_D A [(h, .inr (6, [.ref en, .ref ca, .ref rb, .ref (E.2.2.1 (mode + 1)), .ref (E.2.2.1 1), .int (iI (bN false))])), (rb, .inr (1, [.int (iI 262144), .ref q1, .int (iI ((((out ++ [224 + t / 4096]) ++ [128 + t / 64 % 64]).length : Nat) : Int))])), (q1, .inl (E.2.1 0, sp_grow cap0 (out ++ [224 + t / 4096]).length, .inl f1))] := hD
      have hE := hE0.at hS hA0
      obtain ⟨cap1, ec1⟩ : ∃ x, x = sp_grow cap0 (out ++ [224 + t / 4096]).length := ⟨_, rfl⟩
      rw [← ec1] at hg1 hc2 hB2 hF2 hP hD
      rw [← ec1]
      refine W.widen (k := (cap1 - cap) / 16) (n := 2 * (cap1 - cap)) (by omega) (by omega) ?_
      refine lv_iinc (k := 0) (v := (iI 0)) (lv' := [(4, .int (iI 0)), (3, .int (iI 3)), (2, .int (iI ((t : Nat) : Int))), (0, .ref h), (1, .int (iI ((c0 : Nat) : Int)))]) hx hb d_Output_put_132 hl rfl (by decide) (by decide) rfl (fun ls hl => ?_)
      refine lv_goto hx hb d_Output_put_135 rfl ?_
      refine lv_iload hx hb d_Output_put_106 (lv_at hl 0 rfl) ?_
      refine zi_if_lt hx hb d_Output_put_108 rfl (by omega) (fun h108 => absurd h108 (by omega)) (fun h108 => ?_)
      refine lv_aload_n hx hb d_Output_put_111 rfl (lv_at hl 3 rfl) ?_
      refine zgf S hE (ci := 6) rfl i_Output (hP 0 _ rfl) 2 (by decide) zw_156 rfl d_Output_put_112 ?_
      refine zi_sipush hx hb d_Output_put_115 (by decide) ?_
      refine lv_iload_n hx hb d_Output_put_118 rfl (lv_at hl 2 rfl) ?_
      refine zi_bipush hx hb d_Output_put_119 (by decide) ?_
      refine lv_iload hx hb d_Output_put_121 (lv_at hl 0 rfl) ?_
      refine zi_imul hx hb d_Output_put_123 ?_
      refine W.eq (g2 := F0 m 124 ls ([.int (iI 0), .int (iI ((t : Nat) : Int)), .int (iI 128), .ref rb])) rfl ?_
      refine zi_ishr hx hb d_Output_put_124 (iI_shrN 0 0 (by omega) (by omega) (by decide)) ?_
      refine zi_bipush hx hb d_Output_put_125 (by decide) ?_
      refine zi_iand hx hb d_Output_put_127 (iI_mask 6 63 64 (by omega) (by decide) (by decide)) ?_
      refine zi_ior hx hb d_Output_put_128 (iI_orK 128 7 1 (by decide) (by omega) (by omega)) ?_
      have hw2 : (iI (128 + ((((t : Nat) : Int) / 2 ^ 0) % 64))).toInt8.toInt32 = sb_b (128 + t % 64) := sb_of (by omega) (by omega)
      have hn2 : ((out ++ [224 + t / 4096]) ++ [128 + t / 64 % 64]).length = out.length + 2 := by simp
      have hl2 : ((out ++ [224 + t / 4096]) ++ [128 + t / 64 % 64]).length ≤ cap1 := hB2.1
      have hg2 := sp_grow_up hc2 hl2 (by omega)
      have hm2 : sp_up (((out ++ [224 + t / 4096]) ++ [128 + t / 64 % 64]).length + 1) ≤ sp_up (out.length + 3) := sp_up_mono (by omega)
      have hc3 : sp_capok (sp_grow cap1 ((out ++ [224 + t / 4096]) ++ [128 + t / 64 % 64]).length) := by rw [hg2]; exact sp_capok_max hc2 (sp_up_ok _)
      have hPc := hP.sub (ws' := [(rb, .inr (1, [.int (iI 262144), .ref q1, .int (iI ((((out ++ [224 + t / 4096]) ++ [128 + t / 64 % 64]).length : Nat) : Int))])), (q1, .inl (E.2.1 0, cap1, .inl f1))]) [1, 2] rfl
      have hDc := hD.sub (ws' := [(rb, .inr (1, [.int (iI 262144), .ref q1, .int (iI ((((out ++ [224 + t / 4096]) ++ [128 + t / 64 % 64]).length : Nat) : Int))])), (q1, .inl (E.2.1 0, cap1, .inl f1))]) [1, 2] (by decide) rfl
      have hFc := va_free (wc := [(rb, .inr (1, [.int (iI 262144), .ref q1, .int (iI ((((out ++ [224 + t / 4096]) ++ [128 + t / 64 % 64]).length : Nat) : Int))])), (q1, .inl (E.2.1 0, cap1, .inl f1))]) hD hS hA [1, 2] rfl
      refine zcW (va_runV (As := [.int (iI (128 + ((((t : Nat) : Int) / 2 ^ 0) % 64)))]) (rest := []) S (c_Row_add l E H.size rb q1 cap1 (128 + t % 64) 262144 f1 ((out ++ [224 + t / 4096]) ++ [128 + t / 64 % 64]) (iI (128 + ((((t : Nat) : Int) / 2 ^ 0) % 64))) hw2 (by omega) hB2 (by omega) (by omega) (sp_capok_r hc2).1 (sp_capok_r hc2).2.1 hF2) ⟨zcwB (n := 1) S zw_353 zw_2 zw_684 (by decide +kernel) rfl rfl ⟨Nat.le_of_ble_eq_true rfl, Nat.le_of_ble_eq_true rfl⟩, S.2.2.2.2 _ zw_351, S.2.2.2.2 _ zw_352⟩ (zPreV hE (hP 1 _ rfl) rfl ⟨rfl, hPc, hDc.weaken (fun _ _ _ h => hA0 _ h), trivial⟩) rfl rfl hl.1 rfl (lv_room (Nat.le_of_ble_eq_true rfl)) d_Output_put_129 ⟨by (try dsimp only); omega, by (try dsimp only); omega⟩) hS (fun q _ h => hFc q h) hFc (fun v H locs hq hz1 hk1 hS => ?_)
      obtain ⟨rfl, q2, f2, hP1, hD1, hB3, hF3⟩ := hq
      obtain ⟨hP, hD⟩ := va_join (wr := [(h, .inr (6, [.ref en, .ref ca, .ref rb, .ref (E.2.2.1 (mode + 1)), .ref (E.2.2.1 1), .int (iI (bN false))]))]) (w1 := [(rb, .inr (1, [.int (iI 262144), .ref q2, .int (iI (((((out ++ [224 + t / 4096]) ++ [128 + t / 64 % 64]) ++ [128 + t % 64]).length : Nat) : Int))])), (q2, .inl (E.2.1 0, sp_grow cap1 ((out ++ [224 + t / 4096]) ++ [128 + t / 64 % 64]).length, .inl f2))]) hP hD [1, 2] [0] rfl rfl (by decide) (by decide) hk1 hFc hP1 hD1
      have hP : va_P E.1 zcl [(h, .inr (6, [.ref en, .ref ca, .ref rb, .ref (E.2.2.1 (mode + 1)), .ref (E.2.2.1 1), .int (iI (bN false))])), (rb, .inr (1, [.int (iI 262144), .ref q2, .int (iI (((((out ++ [224 + t / 4096]) ++ [128 + t / 64 % 64]) ++ [128 + t % 64]).length : Nat) : Int))])), (q2, .inl (E.2.1 0, sp_grow cap1 ((out ++ [224 + t / 4096]) ++ [128 + t / 64 % 64]).length, .inl f2))] H := hP
      have hD : va_D A [(h, .inr (6, [.ref en, .ref ca, .ref rb, .ref (E.2.2.1 (mode + 1)), .ref (E.2.2.1 1), .int (iI (bN false))])), (rb, .inr (1, [.int (iI 262144), .ref q2, .int (iI (((((out ++ [224 + t / 4096]) ++ [128 + t / 64 % 64]) ++ [128 + t % 64]).length : Nat) : Int))])), (q2, .inl (E.2.1 0, sp_grow cap1 ((out ++ [224 + t / 4096]) ++ [128 + t / 64 % 64]).length, .inl f2))] := hD
      have hE := hE0.at hS hA0
      obtain ⟨cap2, ec2⟩ : ∃ x, x = sp_grow cap1 ((out ++ [224 + t / 4096]) ++ [128 + t / 64 % 64]).length := ⟨_, rfl⟩
      rw [← ec2] at hg2 hc3 hB3 hF3 hP hD
      rw [← ec2]
      refine W.widen (k := (cap2 - cap) / 16) (n := 2 * (cap2 - cap)) (by omega) (by omega) ?_
      refine lv_iinc (k := 0) (v := (iI (-1))) (lv' := [(4, .int (iI (-1))), (3, .int (iI 3)), (2, .int (iI ((t : Nat) : Int))), (0, .ref h), (1, .int (iI ((c0 : Nat) : Int)))]) hx hb d_Output_put_132 hl rfl (by decide) (by decide) rfl (fun ls hl => ?_)
      refine lv_goto hx hb d_Output_put_135 rfl ?_
      refine lv_iload hx hb d_Output_put_106 (lv_at hl 0 rfl) ?_
      refine zi_if_lt hx hb d_Output_put_108 rfl (by omega) (fun h108 => ?_) (fun h108 => absurd h108 (by omega))
      have hfin : ((out ++ [224 + t / 4096]) ++ [128 + t / 64 % 64]) ++ [128 + t % 64] = out ++ sp_enc utf t := by simp [henc]
      have hlast : sp_up (out.length + 2 + 1) = sp_up (out.length + 3) := rfl
      have hcf : cap2 = capF := by rw [hn2] at hg2 hm2; omega
      have hP9 := hP.sub (ws' := [(h, .inr (6, [.ref en, .ref ca, .ref rb, .ref (E.2.2.1 (mode + 1)), .ref (E.2.2.1 1), .int (iI (bN false))])), (rb, .inr (1, [.int (iI 262144), .ref q2, .int (iI (((((out ++ [224 + t / 4096]) ++ [128 + t / 64 % 64]) ++ [128 + t % 64]).length : Nat) : Int))])), (q2, .inl (E.2.1 0, cap2, .inl f2))]) [0, 1, 2] rfl
      have hD9 := hD.sub (ws' := [(h, .inr (6, [.ref en, .ref ca, .ref rb, .ref (E.2.2.1 (mode + 1)), .ref (E.2.2.1 1), .int (iI (bN false))])), (rb, .inr (1, [.int (iI 262144), .ref q2, .int (iI (((((out ++ [224 + t / 4096]) ++ [128 + t / 64 % 64]) ++ [128 + t % 64]).length : Nat) : Int))])), (q2, .inl (E.2.1 0, cap2, .inl f2))]) [0, 1, 2] (by decide) rfl
      rw [hfin] at hP9 hD9 hB3
      rw [hcf] at hP9 hD9 hB3 hF3
      rw [hcf]
      exact zwv S hr hlk hS (⟨rfl, q2, f2, hP9, hD9, hB3, hF3⟩) (by (try dsimp only); omega) (by (try dsimp only); omega) d_Output_put_138
    · rw [e4] at hl
      have hl : lv_has ls 5 [(3, .int (iI 4)), (2, .int (iI ((t : Nat) : Int))), (0, .ref h), (1, .int (iI ((c0 : Nat) : Int)))] := hl
      have hr4 : ¬ (utf = false ∨ t < 128) ∧ ¬ t < 2048 ∧ ¬ t < 65536 := by unfold sp_len at e4; split at e4; omega; split at e4; omega; split at e4; omega; exact ⟨by assumption, by assumption, by assumption⟩
      have henc : sp_enc utf t = [240 + t / 262144, 128 + t / 4096 % 64, 128 + t / 64 % 64, 128 + t % 64] := by unfold sp_enc; rw [if_neg hr4.1, if_neg hr4.2.1, if_neg hr4.2.2]
      have hcapF : capF = max cap (sp_up (out.length + 4)) := by rw [hcapF0, List.length_append, sp_enc_len, e4]
      have hB0 := hB
      have hF0 := hF
      have hc0 := hc
      refine lv_iload_n hx hb d_Output_put_66 rfl (lv_at hl 0 rfl) ?_
      refine zi_iconst hx hb d_Output_put_67 ?_
      refine zi_icmp_ne hx hb d_Output_put_68 rfl (by omega) (by omega) (fun h68 => ?_) (fun h => absurd h (by omega))
      refine lv_aload_n hx hb d_Output_put_80 rfl (lv_at hl 2 rfl) ?_
      refine zgf S hE (ci := 6) rfl i_Output (hP 0 _ rfl) 2 (by decide) zw_156 rfl d_Output_put_81 ?_
      refine zi_sipush hx hb d_Output_put_84 (by decide) ?_
      refine lv_iload_n hx hb d_Output_put_87 rfl (lv_at hl 0 rfl) ?_
      refine zi_ishr (r := 240) hx hb d_Output_put_88 (by decide) ?_
      refine lv_iload_n hx hb d_Output_put_89 rfl (lv_at hl 1 rfl) ?_
      refine zi_bipush hx hb d_Output_put_90 (by decide) ?_
      refine lv_iload_n hx hb d_Output_put_92 rfl (lv_at hl 0 rfl) ?_
      refine zi_iconst hx hb d_Output_put_93 ?_
      refine zi_isub hx hb d_Output_put_94 ?_
      refine W.eq (g2 := F0 m 95 ls ([.int (iI 3), .int (iI 6), .int (iI ((t : Nat) : Int)), .int (iI 240), .ref rb])) rfl ?_
      refine zi_imul hx hb d_Output_put_95 ?_
      refine W.eq (g2 := F0 m 96 ls ([.int (iI 18), .int (iI ((t : Nat) : Int)), .int (iI 240), .ref rb])) rfl ?_
      refine zi_ishr hx hb d_Output_put_96 (iI_shrN 18 18 (by omega) (by omega) (by decide)) ?_
      refine zi_ior hx hb d_Output_put_97 (iI_orK 240 4 15 (by decide) (by omega) (by omega)) ?_
      have hw0 : (iI (240 + (((t : Nat) : Int) / 2 ^ 18))).toInt8.toInt32 = sb_b (240 + t / 262144) := sb_of (by omega) (by omega)
      have hn0 : (out).length = out.length + 0 := by simp
      have hl0 : (out).length ≤ cap := hB0.1
      have hg0 := sp_grow_up hc0 hl0 (by omega)
      have hm0 : sp_up ((out).length + 1) ≤ sp_up (out.length + 4) := sp_up_mono (by omega)
      have hc1 : sp_capok (sp_grow cap out.length) := by rw [hg0]; exact sp_capok_max hc0 (sp_up_ok _)
      have hPc := hP.sub (ws' := [(rb, .inr (1, [.int (iI 262144), .ref q, .int (iI ((out.length : Nat) : Int))])), (q, .inl (E.2.1 0, cap, .inl f))]) [1, 2] rfl
      have hDc := hD.sub (ws' := [(rb, .inr (1, [.int (iI 262144), .ref q, .int (iI ((out.length : Nat) : Int))])), (q, .inl (E.2.1 0, cap, .inl f))]) [1, 2] (by decide) rfl
      have hFc := va_free (wc := [(rb, .inr (1, [.int (iI 262144), .ref q, .int (iI ((out.length : Nat) : Int))])), (q, .inl (E.2.1 0, cap, .inl f))]) hD hS hA [1, 2] rfl
      refine zcW (va_runV (As := [.int (iI (240 + (((t : Nat) : Int) / 2 ^ 18)))]) (rest := []) S (c_Row_add l E H.size rb q cap (240 + t / 262144) 262144 f out (iI (240 + (((t : Nat) : Int) / 2 ^ 18))) hw0 (by omega) hB0 (by omega) (by omega) (sp_capok_r hc0).1 (sp_capok_r hc0).2.1 hF0) ⟨zcwB (n := 1) S zw_353 zw_2 zw_684 (by decide +kernel) rfl rfl ⟨Nat.le_of_ble_eq_true rfl, Nat.le_of_ble_eq_true rfl⟩, S.2.2.2.2 _ zw_351, S.2.2.2.2 _ zw_352⟩ (zPreV hE (hP 1 _ rfl) rfl ⟨rfl, hPc, hDc.weaken (fun _ _ _ h => hA0 _ h), trivial⟩) rfl rfl hl.1 rfl (lv_room (Nat.le_of_ble_eq_true rfl)) d_Output_put_98 ⟨by (try dsimp only); omega, by (try dsimp only); omega⟩) hS (fun q _ h => hFc q h) hFc (fun v H locs hq hz1 hk1 hS => ?_)
      obtain ⟨rfl, q0, f0, hP1, hD1, hB1, hF1⟩ := hq
      obtain ⟨hP, hD⟩ := va_join (wr := [(h, .inr (6, [.ref en, .ref ca, .ref rb, .ref (E.2.2.1 (mode + 1)), .ref (E.2.2.1 1), .int (iI (bN false))]))]) (w1 := [(rb, .inr (1, [.int (iI 262144), .ref q0, .int (iI (((out ++ [240 + t / 262144]).length : Nat) : Int))])), (q0, .inl (E.2.1 0, sp_grow cap out.length, .inl f0))]) hP hD [1, 2] [0] rfl rfl (by decide) (by decide) hk1 hFc hP1 hD1
      have hP : va_P E.1 zcl [(h, .inr (6, [.ref en, .ref ca, .ref rb, .ref (E.2.2.1 (mode + 1)), .ref (E.2.2.1 1), .int (iI (bN false))])), (rb, .inr (1, [.int (iI 262144), .ref q0, .int (iI (((out ++ [240 + t / 262144]).length : Nat) : Int))])), (q0, .inl (E.2.1 0, sp_grow cap out.length, .inl f0))] H := hP
      have hD : va_D A [(h, .inr (6, [.ref en, .ref ca, .ref rb, .ref (E.2.2.1 (mode + 1)), .ref (E.2.2.1 1), .int (iI (bN false))])), (rb, .inr (1, [.int (iI 262144), .ref q0, .int (iI (((out ++ [240 + t / 262144]).length : Nat) : Int))])), (q0, .inl (E.2.1 0, sp_grow cap out.length, .inl f0))] := hD
      have hE := hE0.at hS hA0
      obtain ⟨cap0, ec0⟩ : ∃ x, x = sp_grow cap out.length := ⟨_, rfl⟩
      rw [← ec0] at hg0 hc1 hB1 hF1 hP hD
      rw [← ec0]
      refine W.widen (k := (cap0 - cap) / 16) (n := 2 * (cap0 - cap)) (by omega) (by omega) ?_
      refine lv_iload_n hx hb d_Output_put_101 rfl (lv_at hl 0 rfl) ?_
      refine zi_iconst hx hb d_Output_put_102 ?_
      refine zi_isub hx hb d_Output_put_103 ?_
      refine W.eq (g2 := F0 m 104 ls ([.int (iI 2)])) rfl ?_
      refine lv_istore (lv' := [(4, .int (iI 2)), (3, .int (iI 4)), (2, .int (iI ((t : Nat) : Int))), (0, .ref h), (1, .int (iI ((c0 : Nat) : Int)))]) hx hb d_Output_put_104 hl (by decide) rfl (fun ls hl => ?_)
      refine lv_iload hx hb d_Output_put_106 (lv_at hl 0 rfl) ?_
      refine zi_if_lt hx hb d_Output_put_108 rfl (by omega) (fun h108 => absurd h108 (by omega)) (fun h108 => ?_)
      refine lv_aload_n hx hb d_Output_put_111 rfl (lv_at hl 3 rfl) ?_
      refine zgf S hE (ci := 6) rfl i_Output (hP 0 _ rfl) 2 (by decide) zw_156 rfl d_Output_put_112 ?_
      refine zi_sipush hx hb d_Output_put_115 (by decide) ?_
      refine lv_iload_n hx hb d_Output_put_118 rfl (lv_at hl 2 rfl) ?_
      refine zi_bipush hx hb d_Output_put_119 (by decide) ?_
      refine lv_iload hx hb d_Output_put_121 (lv_at hl 0 rfl) ?_
      refine zi_imul hx hb d_Output_put_123 ?_
      refine W.eq (g2 := F0 m 124 ls ([.int (iI 12), .int (iI ((t : Nat) : Int)), .int (iI 128), .ref rb])) rfl ?_
      refine zi_ishr hx hb d_Output_put_124 (iI_shrN 12 12 (by omega) (by omega) (by decide)) ?_
      refine zi_bipush hx hb d_Output_put_125 (by decide) ?_
      refine zi_iand hx hb d_Output_put_127 (iI_mask 6 63 64 (by omega) (by decide) (by decide)) ?_
      refine zi_ior hx hb d_Output_put_128 (iI_orK 128 7 1 (by decide) (by omega) (by omega)) ?_
      have hw1 : (iI (128 + ((((t : Nat) : Int) / 2 ^ 12) % 64))).toInt8.toInt32 = sb_b (128 + t / 4096 % 64) := sb_of (by omega) (by omega)
      have hn1 : (out ++ [240 + t / 262144]).length = out.length + 1 := by simp
      have hl1 : (out ++ [240 + t / 262144]).length ≤ cap0 := hB1.1
      have hg1 := sp_grow_up hc1 hl1 (by omega)
      have hm1 : sp_up ((out ++ [240 + t / 262144]).length + 1) ≤ sp_up (out.length + 4) := sp_up_mono (by omega)
      have hc2 : sp_capok (sp_grow cap0 (out ++ [240 + t / 262144]).length) := by rw [hg1]; exact sp_capok_max hc1 (sp_up_ok _)
      have hPc := hP.sub (ws' := [(rb, .inr (1, [.int (iI 262144), .ref q0, .int (iI (((out ++ [240 + t / 262144]).length : Nat) : Int))])), (q0, .inl (E.2.1 0, cap0, .inl f0))]) [1, 2] rfl
      have hDc := hD.sub (ws' := [(rb, .inr (1, [.int (iI 262144), .ref q0, .int (iI (((out ++ [240 + t / 262144]).length : Nat) : Int))])), (q0, .inl (E.2.1 0, cap0, .inl f0))]) [1, 2] (by decide) rfl
      have hFc := va_free (wc := [(rb, .inr (1, [.int (iI 262144), .ref q0, .int (iI (((out ++ [240 + t / 262144]).length : Nat) : Int))])), (q0, .inl (E.2.1 0, cap0, .inl f0))]) hD hS hA [1, 2] rfl
      refine zcW (va_runV (As := [.int (iI (128 + ((((t : Nat) : Int) / 2 ^ 12) % 64)))]) (rest := []) S (c_Row_add l E H.size rb q0 cap0 (128 + t / 4096 % 64) 262144 f0 (out ++ [240 + t / 262144]) (iI (128 + ((((t : Nat) : Int) / 2 ^ 12) % 64))) hw1 (by omega) hB1 (by omega) (by omega) (sp_capok_r hc1).1 (sp_capok_r hc1).2.1 hF1) ⟨zcwB (n := 1) S zw_353 zw_2 zw_684 (by decide +kernel) rfl rfl ⟨Nat.le_of_ble_eq_true rfl, Nat.le_of_ble_eq_true rfl⟩, S.2.2.2.2 _ zw_351, S.2.2.2.2 _ zw_352⟩ (zPreV hE (hP 1 _ rfl) rfl ⟨rfl, hPc, hDc.weaken (fun _ _ _ h => hA0 _ h), trivial⟩) rfl rfl hl.1 rfl (lv_room (Nat.le_of_ble_eq_true rfl)) d_Output_put_129 ⟨by (try dsimp only); omega, by (try dsimp only); omega⟩) hS (fun q _ h => hFc q h) hFc (fun v H locs hq hz1 hk1 hS => ?_)
      obtain ⟨rfl, q1, f1, hP1, hD1, hB2, hF2⟩ := hq
      obtain ⟨hP, hD⟩ := va_join (wr := [(h, .inr (6, [.ref en, .ref ca, .ref rb, .ref (E.2.2.1 (mode + 1)), .ref (E.2.2.1 1), .int (iI (bN false))]))]) (w1 := [(rb, .inr (1, [.int (iI 262144), .ref q1, .int (iI ((((out ++ [240 + t / 262144]) ++ [128 + t / 4096 % 64]).length : Nat) : Int))])), (q1, .inl (E.2.1 0, sp_grow cap0 (out ++ [240 + t / 262144]).length, .inl f1))]) hP hD [1, 2] [0] rfl rfl (by decide) (by decide) hk1 hFc hP1 hD1
      have hP : va_P E.1 zcl [(h, .inr (6, [.ref en, .ref ca, .ref rb, .ref (E.2.2.1 (mode + 1)), .ref (E.2.2.1 1), .int (iI (bN false))])), (rb, .inr (1, [.int (iI 262144), .ref q1, .int (iI ((((out ++ [240 + t / 262144]) ++ [128 + t / 4096 % 64]).length : Nat) : Int))])), (q1, .inl (E.2.1 0, sp_grow cap0 (out ++ [240 + t / 262144]).length, .inl f1))] H := hP
      have hD : va_D A [(h, .inr (6, [.ref en, .ref ca, .ref rb, .ref (E.2.2.1 (mode + 1)), .ref (E.2.2.1 1), .int (iI (bN false))])), (rb, .inr (1, [.int (iI 262144), .ref q1, .int (iI ((((out ++ [240 + t / 262144]) ++ [128 + t / 4096 % 64]).length : Nat) : Int))])), (q1, .inl (E.2.1 0, sp_grow cap0 (out ++ [240 + t / 262144]).length, .inl f1))] := hD
      have hE := hE0.at hS hA0
      obtain ⟨cap1, ec1⟩ : ∃ x, x = sp_grow cap0 (out ++ [240 + t / 262144]).length := ⟨_, rfl⟩
      rw [← ec1] at hg1 hc2 hB2 hF2 hP hD
      rw [← ec1]
      refine W.widen (k := (cap1 - cap) / 16) (n := 2 * (cap1 - cap)) (by omega) (by omega) ?_
      refine lv_iinc (k := 0) (v := (iI 1)) (lv' := [(4, .int (iI 1)), (3, .int (iI 4)), (2, .int (iI ((t : Nat) : Int))), (0, .ref h), (1, .int (iI ((c0 : Nat) : Int)))]) hx hb d_Output_put_132 hl rfl (by decide) (by decide) rfl (fun ls hl => ?_)
      refine lv_goto hx hb d_Output_put_135 rfl ?_
      refine lv_iload hx hb d_Output_put_106 (lv_at hl 0 rfl) ?_
      refine zi_if_lt hx hb d_Output_put_108 rfl (by omega) (fun h108 => absurd h108 (by omega)) (fun h108 => ?_)
      refine lv_aload_n hx hb d_Output_put_111 rfl (lv_at hl 3 rfl) ?_
      refine zgf S hE (ci := 6) rfl i_Output (hP 0 _ rfl) 2 (by decide) zw_156 rfl d_Output_put_112 ?_
      refine zi_sipush hx hb d_Output_put_115 (by decide) ?_
      refine lv_iload_n hx hb d_Output_put_118 rfl (lv_at hl 2 rfl) ?_
      refine zi_bipush hx hb d_Output_put_119 (by decide) ?_
      refine lv_iload hx hb d_Output_put_121 (lv_at hl 0 rfl) ?_
      refine zi_imul hx hb d_Output_put_123 ?_
      refine W.eq (g2 := F0 m 124 ls ([.int (iI 6), .int (iI ((t : Nat) : Int)), .int (iI 128), .ref rb])) rfl ?_
      refine zi_ishr hx hb d_Output_put_124 (iI_shrN 6 6 (by omega) (by omega) (by decide)) ?_
      refine zi_bipush hx hb d_Output_put_125 (by decide) ?_
      refine zi_iand hx hb d_Output_put_127 (iI_mask 6 63 64 (by omega) (by decide) (by decide)) ?_
      refine zi_ior hx hb d_Output_put_128 (iI_orK 128 7 1 (by decide) (by omega) (by omega)) ?_
      have hw2 : (iI (128 + ((((t : Nat) : Int) / 2 ^ 6) % 64))).toInt8.toInt32 = sb_b (128 + t / 64 % 64) := sb_of (by omega) (by omega)
      have hn2 : ((out ++ [240 + t / 262144]) ++ [128 + t / 4096 % 64]).length = out.length + 2 := by simp
      have hl2 : ((out ++ [240 + t / 262144]) ++ [128 + t / 4096 % 64]).length ≤ cap1 := hB2.1
      have hg2 := sp_grow_up hc2 hl2 (by omega)
      have hm2 : sp_up (((out ++ [240 + t / 262144]) ++ [128 + t / 4096 % 64]).length + 1) ≤ sp_up (out.length + 4) := sp_up_mono (by omega)
      have hc3 : sp_capok (sp_grow cap1 ((out ++ [240 + t / 262144]) ++ [128 + t / 4096 % 64]).length) := by rw [hg2]; exact sp_capok_max hc2 (sp_up_ok _)
      have hPc := hP.sub (ws' := [(rb, .inr (1, [.int (iI 262144), .ref q1, .int (iI ((((out ++ [240 + t / 262144]) ++ [128 + t / 4096 % 64]).length : Nat) : Int))])), (q1, .inl (E.2.1 0, cap1, .inl f1))]) [1, 2] rfl
      have hDc := hD.sub (ws' := [(rb, .inr (1, [.int (iI 262144), .ref q1, .int (iI ((((out ++ [240 + t / 262144]) ++ [128 + t / 4096 % 64]).length : Nat) : Int))])), (q1, .inl (E.2.1 0, cap1, .inl f1))]) [1, 2] (by decide) rfl
      have hFc := va_free (wc := [(rb, .inr (1, [.int (iI 262144), .ref q1, .int (iI ((((out ++ [240 + t / 262144]) ++ [128 + t / 4096 % 64]).length : Nat) : Int))])), (q1, .inl (E.2.1 0, cap1, .inl f1))]) hD hS hA [1, 2] rfl
      refine zcW (va_runV (As := [.int (iI (128 + ((((t : Nat) : Int) / 2 ^ 6) % 64)))]) (rest := []) S (c_Row_add l E H.size rb q1 cap1 (128 + t / 64 % 64) 262144 f1 ((out ++ [240 + t / 262144]) ++ [128 + t / 4096 % 64]) (iI (128 + ((((t : Nat) : Int) / 2 ^ 6) % 64))) hw2 (by omega) hB2 (by omega) (by omega) (sp_capok_r hc2).1 (sp_capok_r hc2).2.1 hF2) ⟨zcwB (n := 1) S zw_353 zw_2 zw_684 (by decide +kernel) rfl rfl ⟨Nat.le_of_ble_eq_true rfl, Nat.le_of_ble_eq_true rfl⟩, S.2.2.2.2 _ zw_351, S.2.2.2.2 _ zw_352⟩ (zPreV hE (hP 1 _ rfl) rfl ⟨rfl, hPc, hDc.weaken (fun _ _ _ h => hA0 _ h), trivial⟩) rfl rfl hl.1 rfl (lv_room (Nat.le_of_ble_eq_true rfl)) d_Output_put_129 ⟨by (try dsimp only); omega, by (try dsimp only); omega⟩) hS (fun q _ h => hFc q h) hFc (fun v H locs hq hz1 hk1 hS => ?_)
      obtain ⟨rfl, q2, f2, hP1, hD1, hB3, hF3⟩ := hq
      obtain ⟨hP, hD⟩ := va_join (wr := [(h, .inr (6, [.ref en, .ref ca, .ref rb, .ref (E.2.2.1 (mode + 1)), .ref (E.2.2.1 1), .int (iI (bN false))]))]) (w1 := [(rb, .inr (1, [.int (iI 262144), .ref q2, .int (iI (((((out ++ [240 + t / 262144]) ++ [128 + t / 4096 % 64]) ++ [128 + t / 64 % 64]).length : Nat) : Int))])), (q2, .inl (E.2.1 0, sp_grow cap1 ((out ++ [240 + t / 262144]) ++ [128 + t / 4096 % 64]).length, .inl f2))]) hP hD [1, 2] [0] rfl rfl (by decide) (by decide) hk1 hFc hP1 hD1
      have hP : va_P E.1 zcl [(h, .inr (6, [.ref en, .ref ca, .ref rb, .ref (E.2.2.1 (mode + 1)), .ref (E.2.2.1 1), .int (iI (bN false))])), (rb, .inr (1, [.int (iI 262144), .ref q2, .int (iI (((((out ++ [240 + t / 262144]) ++ [128 + t / 4096 % 64]) ++ [128 + t / 64 % 64]).length : Nat) : Int))])), (q2, .inl (E.2.1 0, sp_grow cap1 ((out ++ [240 + t / 262144]) ++ [128 + t / 4096 % 64]).length, .inl f2))] H := hP
      have hD : va_D A [(h, .inr (6, [.ref en, .ref ca, .ref rb, .ref (E.2.2.1 (mode + 1)), .ref (E.2.2.1 1), .int (iI (bN false))])), (rb, .inr (1, [.int (iI 262144), .ref q2, .int (iI (((((out ++ [240 + t / 262144]) ++ [128 + t / 4096 % 64]) ++ [128 + t / 64 % 64]).length : Nat) : Int))])), (q2, .inl (E.2.1 0, sp_grow cap1 ((out ++ [240 + t / 262144]) ++ [128 + t / 4096 % 64]).length, .inl f2))] := hD
      have hE := hE0.at hS hA0
      obtain ⟨cap2, ec2⟩ : ∃ x, x = sp_grow cap1 ((out ++ [240 + t / 262144]) ++ [128 + t / 4096 % 64]).length := ⟨_, rfl⟩
      rw [← ec2] at hg2 hc3 hB3 hF3 hP hD
      rw [← ec2]
      refine W.widen (k := (cap2 - cap) / 16) (n := 2 * (cap2 - cap)) (by omega) (by omega) ?_
      refine lv_iinc (k := 0) (v := (iI 0)) (lv' := [(4, .int (iI 0)), (3, .int (iI 4)), (2, .int (iI ((t : Nat) : Int))), (0, .ref h), (1, .int (iI ((c0 : Nat) : Int)))]) hx hb d_Output_put_132 hl rfl (by decide) (by decide) rfl (fun ls hl => ?_)
      refine lv_goto hx hb d_Output_put_135 rfl ?_
      refine lv_iload hx hb d_Output_put_106 (lv_at hl 0 rfl) ?_
      refine zi_if_lt hx hb d_Output_put_108 rfl (by omega) (fun h108 => absurd h108 (by omega)) (fun h108 => ?_)
      refine lv_aload_n hx hb d_Output_put_111 rfl (lv_at hl 3 rfl) ?_
      refine zgf S hE (ci := 6) rfl i_Output (hP 0 _ rfl) 2 (by decide) zw_156 rfl d_Output_put_112 ?_
      refine zi_sipush hx hb d_Output_put_115 (by decide) ?_
      refine lv_iload_n hx hb d_Output_put_118 rfl (lv_at hl 2 rfl) ?_
      refine zi_bipush hx hb d_Output_put_119 (by decide) ?_
      refine lv_iload hx hb d_Output_put_121 (lv_at hl 0 rfl) ?_
      refine zi_imul hx hb d_Output_put_123 ?_
      refine W.eq (g2 := F0 m 124 ls ([.int (iI 0), .int (iI ((t : Nat) : Int)), .int (iI 128), .ref rb])) rfl ?_
      refine zi_ishr hx hb d_Output_put_124 (iI_shrN 0 0 (by omega) (by omega) (by decide)) ?_
      refine zi_bipush hx hb d_Output_put_125 (by decide) ?_
      refine zi_iand hx hb d_Output_put_127 (iI_mask 6 63 64 (by omega) (by decide) (by decide)) ?_
      refine zi_ior hx hb d_Output_put_128 (iI_orK 128 7 1 (by decide) (by omega) (by omega)) ?_
      have hw3 : (iI (128 + ((((t : Nat) : Int) / 2 ^ 0) % 64))).toInt8.toInt32 = sb_b (128 + t % 64) := sb_of (by omega) (by omega)
      have hn3 : (((out ++ [240 + t / 262144]) ++ [128 + t / 4096 % 64]) ++ [128 + t / 64 % 64]).length = out.length + 3 := by simp
      have hl3 : (((out ++ [240 + t / 262144]) ++ [128 + t / 4096 % 64]) ++ [128 + t / 64 % 64]).length ≤ cap2 := hB3.1
      have hg3 := sp_grow_up hc3 hl3 (by omega)
      have hm3 : sp_up ((((out ++ [240 + t / 262144]) ++ [128 + t / 4096 % 64]) ++ [128 + t / 64 % 64]).length + 1) ≤ sp_up (out.length + 4) := sp_up_mono (by omega)
      have hc4 : sp_capok (sp_grow cap2 (((out ++ [240 + t / 262144]) ++ [128 + t / 4096 % 64]) ++ [128 + t / 64 % 64]).length) := by rw [hg3]; exact sp_capok_max hc3 (sp_up_ok _)
      have hPc := hP.sub (ws' := [(rb, .inr (1, [.int (iI 262144), .ref q2, .int (iI (((((out ++ [240 + t / 262144]) ++ [128 + t / 4096 % 64]) ++ [128 + t / 64 % 64]).length : Nat) : Int))])), (q2, .inl (E.2.1 0, cap2, .inl f2))]) [1, 2] rfl
      have hDc := hD.sub (ws' := [(rb, .inr (1, [.int (iI 262144), .ref q2, .int (iI (((((out ++ [240 + t / 262144]) ++ [128 + t / 4096 % 64]) ++ [128 + t / 64 % 64]).length : Nat) : Int))])), (q2, .inl (E.2.1 0, cap2, .inl f2))]) [1, 2] (by decide) rfl
      have hFc := va_free (wc := [(rb, .inr (1, [.int (iI 262144), .ref q2, .int (iI (((((out ++ [240 + t / 262144]) ++ [128 + t / 4096 % 64]) ++ [128 + t / 64 % 64]).length : Nat) : Int))])), (q2, .inl (E.2.1 0, cap2, .inl f2))]) hD hS hA [1, 2] rfl
      refine zcW (va_runV (As := [.int (iI (128 + ((((t : Nat) : Int) / 2 ^ 0) % 64)))]) (rest := []) S (c_Row_add l E H.size rb q2 cap2 (128 + t % 64) 262144 f2 (((out ++ [240 + t / 262144]) ++ [128 + t / 4096 % 64]) ++ [128 + t / 64 % 64]) (iI (128 + ((((t : Nat) : Int) / 2 ^ 0) % 64))) hw3 (by omega) hB3 (by omega) (by omega) (sp_capok_r hc3).1 (sp_capok_r hc3).2.1 hF3) ⟨zcwB (n := 1) S zw_353 zw_2 zw_684 (by decide +kernel) rfl rfl ⟨Nat.le_of_ble_eq_true rfl, Nat.le_of_ble_eq_true rfl⟩, S.2.2.2.2 _ zw_351, S.2.2.2.2 _ zw_352⟩ (zPreV hE (hP 1 _ rfl) rfl ⟨rfl, hPc, hDc.weaken (fun _ _ _ h => hA0 _ h), trivial⟩) rfl rfl hl.1 rfl (lv_room (Nat.le_of_ble_eq_true rfl)) d_Output_put_129 ⟨by (try dsimp only); omega, by (try dsimp only); omega⟩) hS (fun q _ h => hFc q h) hFc (fun v H locs hq hz1 hk1 hS => ?_)
      obtain ⟨rfl, q3, f3, hP1, hD1, hB4, hF4⟩ := hq
      obtain ⟨hP, hD⟩ := va_join (wr := [(h, .inr (6, [.ref en, .ref ca, .ref rb, .ref (E.2.2.1 (mode + 1)), .ref (E.2.2.1 1), .int (iI (bN false))]))]) (w1 := [(rb, .inr (1, [.int (iI 262144), .ref q3, .int (iI ((((((out ++ [240 + t / 262144]) ++ [128 + t / 4096 % 64]) ++ [128 + t / 64 % 64]) ++ [128 + t % 64]).length : Nat) : Int))])), (q3, .inl (E.2.1 0, sp_grow cap2 (((out ++ [240 + t / 262144]) ++ [128 + t / 4096 % 64]) ++ [128 + t / 64 % 64]).length, .inl f3))]) hP hD [1, 2] [0] rfl rfl (by decide) (by decide) hk1 hFc hP1 hD1
      have hP : va_P E.1 zcl [(h, .inr (6, [.ref en, .ref ca, .ref rb, .ref (E.2.2.1 (mode + 1)), .ref (E.2.2.1 1), .int (iI (bN false))])), (rb, .inr (1, [.int (iI 262144), .ref q3, .int (iI ((((((out ++ [240 + t / 262144]) ++ [128 + t / 4096 % 64]) ++ [128 + t / 64 % 64]) ++ [128 + t % 64]).length : Nat) : Int))])), (q3, .inl (E.2.1 0, sp_grow cap2 (((out ++ [240 + t / 262144]) ++ [128 + t / 4096 % 64]) ++ [128 + t / 64 % 64]).length, .inl f3))] H := hP
      have hD : va_D A [(h, .inr (6, [.ref en, .ref ca, .ref rb, .ref (E.2.2.1 (mode + 1)), .ref (E.2.2.1 1), .int (iI (bN false))])), (rb, .inr (1, [.int (iI 262144), .ref q3, .int (iI ((((((out ++ [240 + t / 262144]) ++ [128 + t / 4096 % 64]) ++ [128 + t / 64 % 64]) ++ [128 + t % 64]).length : Nat) : Int))])), (q3, .inl (E.2.1 0, sp_grow cap2 (((out ++ [240 + t / 262144]) ++ [128 + t / 4096 % 64]) ++ [128 + t / 64 % 64]).length, .inl f3))] := hD
      have hE := hE0.at hS hA0
      obtain ⟨cap3, ec3⟩ : ∃ x, x = sp_grow cap2 (((out ++ [240 + t / 262144]) ++ [128 + t / 4096 % 64]) ++ [128 + t / 64 % 64]).length := ⟨_, rfl⟩
      rw [← ec3] at hg3 hc4 hB4 hF4 hP hD
      rw [← ec3]
      refine W.widen (k := (cap3 - cap) / 16) (n := 2 * (cap3 - cap)) (by omega) (by omega) ?_
      refine lv_iinc (k := 0) (v := (iI (-1))) (lv' := [(4, .int (iI (-1))), (3, .int (iI 4)), (2, .int (iI ((t : Nat) : Int))), (0, .ref h), (1, .int (iI ((c0 : Nat) : Int)))]) hx hb d_Output_put_132 hl rfl (by decide) (by decide) rfl (fun ls hl => ?_)
      refine lv_goto hx hb d_Output_put_135 rfl ?_
      refine lv_iload hx hb d_Output_put_106 (lv_at hl 0 rfl) ?_
      refine zi_if_lt hx hb d_Output_put_108 rfl (by omega) (fun h108 => ?_) (fun h108 => absurd h108 (by omega))
      have hfin : (((out ++ [240 + t / 262144]) ++ [128 + t / 4096 % 64]) ++ [128 + t / 64 % 64]) ++ [128 + t % 64] = out ++ sp_enc utf t := by simp [henc]
      have hlast : sp_up (out.length + 3 + 1) = sp_up (out.length + 4) := rfl
      have hcf : cap3 = capF := by rw [hn3] at hg3 hm3; omega
      have hP9 := hP.sub (ws' := [(h, .inr (6, [.ref en, .ref ca, .ref rb, .ref (E.2.2.1 (mode + 1)), .ref (E.2.2.1 1), .int (iI (bN false))])), (rb, .inr (1, [.int (iI 262144), .ref q3, .int (iI ((((((out ++ [240 + t / 262144]) ++ [128 + t / 4096 % 64]) ++ [128 + t / 64 % 64]) ++ [128 + t % 64]).length : Nat) : Int))])), (q3, .inl (E.2.1 0, cap3, .inl f3))]) [0, 1, 2] rfl
      have hD9 := hD.sub (ws' := [(h, .inr (6, [.ref en, .ref ca, .ref rb, .ref (E.2.2.1 (mode + 1)), .ref (E.2.2.1 1), .int (iI (bN false))])), (rb, .inr (1, [.int (iI 262144), .ref q3, .int (iI ((((((out ++ [240 + t / 262144]) ++ [128 + t / 4096 % 64]) ++ [128 + t / 64 % 64]) ++ [128 + t % 64]).length : Nat) : Int))])), (q3, .inl (E.2.1 0, cap3, .inl f3))]) [0, 1, 2] (by decide) rfl
      rw [hfin] at hP9 hD9 hB4
      rw [hcf] at hP9 hD9 hB4 hF4
      rw [hcf]
      exact zwv S hr hlk hS (⟨rfl, q3, f3, hP9, hD9, hB4, hF4⟩) (by (try dsimp only); omega) (by (try dsimp only); omega) d_Output_put_138
end
section
set_option maxRecDepth 100000 in
set_option maxHeartbeats 4000000 in
theorem c_Output_put_full (l : Launch) (E : zP) (sz : Nat) (Z : Nat → Prop) (h rb q en ca cap mode once c0 how t : Nat) (utf ucp : Bool) (f : Nat → Int32) (out : List Nat) (hB : zbytes out cap f) (hF : zfit cap f) (hc : sp_capok cap) (hmode : mode ≤ 2) (honce : once ≤ 2) (hok : sp_ok utf c0 = true) (hhow : how = if once = 0 then mode else once) (ht : t = sp_case utf ucp how c0) (hfits : ¬ out.length + sp_len utf t ≤ 262144) : Met l y_Output_put (.code y_Output_put b_Output_put 5 ( Option.none : Option FieldType ) :: zw) { frames := 2, cells := (0), slots := (0), locals := 50 } (zPc E [.ref h, .int (iI ((c0 : Nat) : Int))] (fun H => H.size = sz ∧ va_P E.1 zcl [(h, .inr (6, [.ref en, .ref ca, .ref rb, .ref (E.2.2.1 (mode + 1)), .ref (E.2.2.1 (once + 1)), .int (iI (bN false))])), (rb, .inr (1, [.int (iI 262144), .ref q, .int (iI ((out.length : Nat) : Int))])), (q, .inl (E.2.1 0, cap, .inl f))] H ∧ va_D (fun x => zOld E x ∧ ¬ Z x) [(h, .inr (6, [.ref en, .ref ca, .ref rb, .ref (E.2.2.1 (mode + 1)), .ref (E.2.2.1 (once + 1)), .int (iI (bN false))])), (rb, .inr (1, [.int (iI 262144), .ref q, .int (iI ((out.length : Nat) : Int))])), (q, .inl (E.2.1 0, cap, .inl f))] ∧ (∀ q, Z q → q < sz) ∧ (Z en ∧ Z ca ∧ zO E 2 en [.int (iI (bN utf))] H ∧ zO E 3 ca [.int (iI ((5 * sp_many utf ucp : Nat) : Int))] H))) (zW (fun v H => v = none ∧ va_P E.1 zcl [(h, .inr (6, [.ref en, .ref ca, .ref rb, .ref (E.2.2.1 (mode + 1)), .ref (E.2.2.1 (0 + 1)), .int (iI (bN true))])), (rb, .inr (1, [.int (iI 262144), .ref q, .int (iI ((out.length : Nat) : Int))])), (q, .inl (E.2.1 0, cap, .inl f))] H ∧ va_D (va_A [(h, .inr (6, [.ref en, .ref ca, .ref rb, .ref (E.2.2.1 (mode + 1)), .ref (E.2.2.1 (once + 1)), .int (iI (bN false))])), (rb, .inr (1, [.int (iI 262144), .ref q, .int (iI ((out.length : Nat) : Int))])), (q, .inl (E.2.1 0, cap, .inl f))] sz) [(h, .inr (6, [.ref en, .ref ca, .ref rb, .ref (E.2.2.1 (mode + 1)), .ref (E.2.2.1 (0 + 1)), .int (iI (bN true))])), (rb, .inr (1, [.int (iI 262144), .ref q, .int (iI ((out.length : Nat) : Int))])), (q, .inl (E.2.1 0, cap, .inl f))]) (va_A [(h, .inr (6, [.ref en, .ref ca, .ref rb, .ref (E.2.2.1 (mode + 1)), .ref (E.2.2.1 (once + 1)), .int (iI (bN false))])), (rb, .inr (1, [.int (iI 262144), .ref q, .int (iI ((out.length : Nat) : Int))])), (q, .inl (E.2.1 0, cap, .inl f))] sz)) (0) (0) (va_A [(h, .inr (6, [.ref en, .ref ca, .ref rb, .ref (E.2.2.1 (mode + 1)), .ref (E.2.2.1 (once + 1)), .int (iI (bN false))])), (rb, .inr (1, [.int (iI 262144), .ref q, .int (iI ((out.length : Nat) : Int))])), (q, .inl (E.2.1 0, cap, .inl f))] sz) := by
  refine zMet (by decide) (Nat.le_of_ble_eq_true rfl) ?_
  intro p e s m below meth c ls S hr hlk hnm hE ⟨hsz, hP, hDo, hZb, hze, hzc, hen, hca⟩ hl
  have hx := S.1
  have hb := S.2.1
  have hE0 := hE
  have hl : lv_has ls 5 [(0, .ref h), (1, .int (iI ((c0 : Nat) : Int)))] := hl
  subst hsz
  have hD := hDo.self (sz := s.heap.size)
  generalize hAe : va_A [(h, .inr (6, [.ref en, .ref ca, .ref rb, .ref (E.2.2.1 (mode + 1)), .ref (E.2.2.1 (once + 1)), .int (iI (bN false))])), (rb, .inr (1, [.int (iI 262144), .ref q, .int (iI ((out.length : Nat) : Int))])), (q, .inl (E.2.1 0, cap, .inl f))] s.heap.size = A at hD ⊢
  have hA : ∀ q : Nat, s.heap.size ≤ q → A q := fun q h => by rw [← hAe]; exact Or.inr h
  have hA1 := zAZ hE hDo hZb hAe
  have hA0 : ∀ q, A q → zOld E q := fun q h => (hA1 q h).1
  have hAZ : ∀ q, Z q → ¬ A q := fun q z h => (hA1 q h).2 z
  have hS : va_S A s.heap s.heap [] := va_S.rf
  have hlt := sp_case_lt (ucp := ucp) (how := how) hok
  rw [← ht] at hlt
  have hln := sp_len_le utf t
  have hc0b : c0 < 2097152 := by cases utf <;> simp [sp_ok] at hok <;> omega
  have hob := hB.1
  have hcr := sp_capok_r hc
  refine lv_aload_n hx hb d_Output_put_0 rfl (lv_at hl 0 rfl) ?_
  refine zgf S hE (ci := 6) rfl i_Output (hP 0 _ rfl) 1 (by decide) zw_155 rfl d_Output_put_1 ?_
  refine lv_iload_n hx hb d_Output_put_4 rfl (lv_at hl 1 rfl) ?_
  refine lv_aload_n hx hb d_Output_put_5 rfl (lv_at hl 0 rfl) ?_
  refine zgf S hE (ci := 6) rfl i_Output (hP 0 _ rfl) 4 (by decide) zw_158 rfl d_Output_put_6 ?_
  refine zgs S hE.asis zw_152 d_Output_put_9 ?_
  refine zacmp_ne hx hb d_Output_put_12 rfl (fun h12 => ?_) (fun h12 => ?_)
  · have ho : once ≠ 0 := fun q => h12 (by rw [q])
    refine lv_aload_n hx hb d_Output_put_22 rfl (lv_at hl 0 rfl) ?_
    refine zgf S hE (ci := 6) rfl i_Output (hP 0 _ rfl) 4 (by decide) zw_158 rfl d_Output_put_23 ?_
    refine zcR (va_runV (As := [.int (iI ((c0 : Nat) : Int)), .ref (E.2.2.1 (once + 1))]) (rest := []) S (c_Cases_turned l E ca (sp_many utf ucp) c0 once (sp_many_le utf ucp) (by omega) honce) ⟨zcwB (n := 2) S zw_675 zw_9 zw_672 (by decide +kernel) rfl rfl ⟨Nat.le_of_ble_eq_true rfl, Nat.le_of_ble_eq_true rfl⟩, S.2.2.2.2 _ zw_673, S.2.2.2.2 _ zw_674⟩ (zPreV hE (zfz hS hca (hAZ _ hzc)) rfl (zfz hS hca (hAZ _ hzc))) rfl rfl hl.1 rfl (lv_room (Nat.le_of_ble_eq_true rfl)) d_Output_put_26 ⟨by (try dsimp only); omega, by (try dsimp only); omega⟩) ?_
    rw [sp_case_eq hok, ← (show t = sp_case utf ucp once c0 by rw [ht, hhow]; rw [if_neg ho])]
    refine lv_istore_n (lv' := [(2, .int (iI ((t : Nat) : Int))), (0, .ref h), (1, .int (iI ((c0 : Nat) : Int)))]) hx hb d_Output_put_29 rfl hl (by decide) rfl (fun ls hl => ?_)
    refine lv_aload_n hx hb d_Output_put_30 rfl (lv_at hl 1 rfl) ?_
    refine zgs S hE.asis zw_152 d_Output_put_31 ?_
    refine va_put (D := E.1) (ci := 6) (v := .ref (E.2.2.1 1)) (ty := .object "ReplacementWriter$Turn") (C := "ReplacementWriter$Output") (T := F_Output) (N := 6) hx hb S.2.2.2.2 i_Output t_Output t_Output_ok n_Output S.2.2.2.1 hE.1 hP hD hS 0 rfl rfl 4 (by decide) (S.2.2.2.2 _ zw_158) (fun _ h9 => h9) rfl (by decide +kernel) rfl rfl (Nat.le_of_ble_eq_true rfl) d_Output_put_34 (fun H locs hP hD hS => ?_)
    have hP : va_P E.1 zcl [(h, .inr (6, [.ref en, .ref ca, .ref rb, .ref (E.2.2.1 (mode + 1)), .ref (E.2.2.1 1), .int (iI (bN false))])), (rb, .inr (1, [.int (iI 262144), .ref q, .int (iI ((out.length : Nat) : Int))])), (q, .inl (E.2.1 0, cap, .inl f))] H := hP
    have hD : va_D A [(h, .inr (6, [.ref en, .ref ca, .ref rb, .ref (E.2.2.1 (mode + 1)), .ref (E.2.2.1 1), .int (iI (bN false))])), (rb, .inr (1, [.int (iI 262144), .ref q, .int (iI ((out.length : Nat) : Int))])), (q, .inl (E.2.1 0, cap, .inl f))] := hD
    have hE := hE0.at hS hA0
    refine lv_aload_n hx hb d_Output_put_37 rfl (lv_at hl 1 rfl) ?_
    refine zgf S hE (ci := 6) rfl i_Output (hP 0 _ rfl) 0 (by decide) zw_154 rfl d_Output_put_38 ?_
    refine lv_iload_n hx hb d_Output_put_41 rfl (lv_at hl 0 rfl) ?_
    refine zcR (va_runV (As := [.int (iI ((t : Nat) : Int))]) (rest := []) S (c_Encoding_lengthOf l E en utf t (by omega)) ⟨zcwB (n := 1) S zw_457 zw_7 zw_682 (by decide +kernel) rfl rfl ⟨Nat.le_of_ble_eq_true rfl, Nat.le_of_ble_eq_true rfl⟩, S.2.2.2.2 _ zw_455, S.2.2.2.2 _ zw_456⟩ (zPreV hE (zfz hS hen (hAZ _ hze)) rfl (zfz hS hen (hAZ _ hze))) rfl rfl hl.1 rfl (lv_room (Nat.le_of_ble_eq_true rfl)) d_Output_put_42 ⟨by (try dsimp only); omega, by (try dsimp only); omega⟩) ?_
    have hb42 := sp_len_le utf t
    refine lv_istore_n (lv' := [(3, .int (iI ((sp_len utf t : Nat) : Int))), (2, .int (iI ((t : Nat) : Int))), (0, .ref h), (1, .int (iI ((c0 : Nat) : Int)))]) hx hb d_Output_put_45 rfl hl (by decide) rfl (fun ls hl => ?_)
    refine lv_aload_n hx hb d_Output_put_46 rfl (lv_at hl 2 rfl) ?_
    refine zgf S hE (ci := 6) rfl i_Output (hP 0 _ rfl) 2 (by decide) zw_156 rfl d_Output_put_47 ?_
    refine zcR (va_runV (As := []) (rest := []) S (c_Row_length l E rb out) ⟨zcwB (n := 0) S zw_258 zw_2 zw_683 (by decide +kernel) rfl rfl ⟨Nat.le_of_ble_eq_true rfl, Nat.le_of_ble_eq_true rfl⟩, S.2.2.2.2 _ zw_256, S.2.2.2.2 _ zw_257⟩ (zPreVrow hE (zrow.of (hP 1 _ rfl) (hP 2 _ rfl) hB) (zrow.of (hP 1 _ rfl) (hP 2 _ rfl) hB)) rfl rfl hl.1 rfl (lv_room (Nat.le_of_ble_eq_true rfl)) d_Output_put_50 ⟨by (try dsimp only); omega, by (try dsimp only); omega⟩) ?_
    refine lv_iload_n hx hb d_Output_put_53 rfl (lv_at hl 0 rfl) ?_
    refine zi_iadd hx hb d_Output_put_54 ?_
    refine zldc (n := 262144) S zw_150 (by decide) d_Output_put_55 ?_
    refine zi_icmp_le hx hb d_Output_put_57 rfl (by omega) (by omega) (fun h => absurd h (by omega)) (fun h57 => ?_)
    refine lv_aload_n hx hb d_Output_put_60 rfl (lv_at hl 2 rfl) ?_
    refine zi_iconst hx hb d_Output_put_61 ?_
    refine va_put (D := E.1) (ci := 6) (v := .int (iI (bN true))) (ty := .boolean) (C := "ReplacementWriter$Output") (T := F_Output) (N := 6) hx hb S.2.2.2.2 i_Output t_Output t_Output_ok n_Output S.2.2.2.1 hE.1 hP hD hS 0 rfl rfl 5 (by decide) (S.2.2.2.2 _ zw_159) (fun _ h9 => h9) rfl (by decide +kernel) (bN_nar _) (bN_fit _) (Nat.le_of_ble_eq_true rfl) d_Output_put_62 (fun H locs hP hD hS => ?_)
    have hP : va_P E.1 zcl [(h, .inr (6, [.ref en, .ref ca, .ref rb, .ref (E.2.2.1 (mode + 1)), .ref (E.2.2.1 1), .int (iI (bN true))])), (rb, .inr (1, [.int (iI 262144), .ref q, .int (iI ((out.length : Nat) : Int))])), (q, .inl (E.2.1 0, cap, .inl f))] H := hP
    have hD : va_D A [(h, .inr (6, [.ref en, .ref ca, .ref rb, .ref (E.2.2.1 (mode + 1)), .ref (E.2.2.1 1), .int (iI (bN true))])), (rb, .inr (1, [.int (iI 262144), .ref q, .int (iI ((out.length : Nat) : Int))])), (q, .inl (E.2.1 0, cap, .inl f))] := hD
    have hE := hE0.at hS hA0
    exact zwv S hr hlk hS (⟨rfl, hP, hD⟩) (by (try dsimp only); omega) (by (try dsimp only); omega) d_Output_put_65
  · have ho : once = 0 := (hE.turns honce (b := 0) (by omega)).mp h12
    refine lv_aload_n hx hb d_Output_put_15 rfl (lv_at hl 0 rfl) ?_
    refine zgf S hE (ci := 6) rfl i_Output (hP 0 _ rfl) 3 (by decide) zw_157 rfl d_Output_put_16 ?_
    refine lv_goto hx hb d_Output_put_19 rfl ?_
    refine zcR (va_runV (As := [.int (iI ((c0 : Nat) : Int)), .ref (E.2.2.1 (mode + 1))]) (rest := []) S (c_Cases_turned l E ca (sp_many utf ucp) c0 mode (sp_many_le utf ucp) (by omega) hmode) ⟨zcwB (n := 2) S zw_675 zw_9 zw_672 (by decide +kernel) rfl rfl ⟨Nat.le_of_ble_eq_true rfl, Nat.le_of_ble_eq_true rfl⟩, S.2.2.2.2 _ zw_673, S.2.2.2.2 _ zw_674⟩ (zPreV hE (zfz hS hca (hAZ _ hzc)) rfl (zfz hS hca (hAZ _ hzc))) rfl rfl hl.1 rfl (lv_room (Nat.le_of_ble_eq_true rfl)) d_Output_put_26 ⟨by (try dsimp only); omega, by (try dsimp only); omega⟩) ?_
    rw [sp_case_eq hok, ← (show t = sp_case utf ucp mode c0 by rw [ht, hhow]; rw [if_pos ho])]
    refine lv_istore_n (lv' := [(2, .int (iI ((t : Nat) : Int))), (0, .ref h), (1, .int (iI ((c0 : Nat) : Int)))]) hx hb d_Output_put_29 rfl hl (by decide) rfl (fun ls hl => ?_)
    refine lv_aload_n hx hb d_Output_put_30 rfl (lv_at hl 1 rfl) ?_
    refine zgs S hE.asis zw_152 d_Output_put_31 ?_
    refine va_put (D := E.1) (ci := 6) (v := .ref (E.2.2.1 1)) (ty := .object "ReplacementWriter$Turn") (C := "ReplacementWriter$Output") (T := F_Output) (N := 6) hx hb S.2.2.2.2 i_Output t_Output t_Output_ok n_Output S.2.2.2.1 hE.1 hP hD hS 0 rfl rfl 4 (by decide) (S.2.2.2.2 _ zw_158) (fun _ h9 => h9) rfl (by decide +kernel) rfl rfl (Nat.le_of_ble_eq_true rfl) d_Output_put_34 (fun H locs hP hD hS => ?_)
    have hP : va_P E.1 zcl [(h, .inr (6, [.ref en, .ref ca, .ref rb, .ref (E.2.2.1 (mode + 1)), .ref (E.2.2.1 1), .int (iI (bN false))])), (rb, .inr (1, [.int (iI 262144), .ref q, .int (iI ((out.length : Nat) : Int))])), (q, .inl (E.2.1 0, cap, .inl f))] H := hP
    have hD : va_D A [(h, .inr (6, [.ref en, .ref ca, .ref rb, .ref (E.2.2.1 (mode + 1)), .ref (E.2.2.1 1), .int (iI (bN false))])), (rb, .inr (1, [.int (iI 262144), .ref q, .int (iI ((out.length : Nat) : Int))])), (q, .inl (E.2.1 0, cap, .inl f))] := hD
    have hE := hE0.at hS hA0
    refine lv_aload_n hx hb d_Output_put_37 rfl (lv_at hl 1 rfl) ?_
    refine zgf S hE (ci := 6) rfl i_Output (hP 0 _ rfl) 0 (by decide) zw_154 rfl d_Output_put_38 ?_
    refine lv_iload_n hx hb d_Output_put_41 rfl (lv_at hl 0 rfl) ?_
    refine zcR (va_runV (As := [.int (iI ((t : Nat) : Int))]) (rest := []) S (c_Encoding_lengthOf l E en utf t (by omega)) ⟨zcwB (n := 1) S zw_457 zw_7 zw_682 (by decide +kernel) rfl rfl ⟨Nat.le_of_ble_eq_true rfl, Nat.le_of_ble_eq_true rfl⟩, S.2.2.2.2 _ zw_455, S.2.2.2.2 _ zw_456⟩ (zPreV hE (zfz hS hen (hAZ _ hze)) rfl (zfz hS hen (hAZ _ hze))) rfl rfl hl.1 rfl (lv_room (Nat.le_of_ble_eq_true rfl)) d_Output_put_42 ⟨by (try dsimp only); omega, by (try dsimp only); omega⟩) ?_
    have hb42 := sp_len_le utf t
    refine lv_istore_n (lv' := [(3, .int (iI ((sp_len utf t : Nat) : Int))), (2, .int (iI ((t : Nat) : Int))), (0, .ref h), (1, .int (iI ((c0 : Nat) : Int)))]) hx hb d_Output_put_45 rfl hl (by decide) rfl (fun ls hl => ?_)
    refine lv_aload_n hx hb d_Output_put_46 rfl (lv_at hl 2 rfl) ?_
    refine zgf S hE (ci := 6) rfl i_Output (hP 0 _ rfl) 2 (by decide) zw_156 rfl d_Output_put_47 ?_
    refine zcR (va_runV (As := []) (rest := []) S (c_Row_length l E rb out) ⟨zcwB (n := 0) S zw_258 zw_2 zw_683 (by decide +kernel) rfl rfl ⟨Nat.le_of_ble_eq_true rfl, Nat.le_of_ble_eq_true rfl⟩, S.2.2.2.2 _ zw_256, S.2.2.2.2 _ zw_257⟩ (zPreVrow hE (zrow.of (hP 1 _ rfl) (hP 2 _ rfl) hB) (zrow.of (hP 1 _ rfl) (hP 2 _ rfl) hB)) rfl rfl hl.1 rfl (lv_room (Nat.le_of_ble_eq_true rfl)) d_Output_put_50 ⟨by (try dsimp only); omega, by (try dsimp only); omega⟩) ?_
    refine lv_iload_n hx hb d_Output_put_53 rfl (lv_at hl 0 rfl) ?_
    refine zi_iadd hx hb d_Output_put_54 ?_
    refine zldc (n := 262144) S zw_150 (by decide) d_Output_put_55 ?_
    refine zi_icmp_le hx hb d_Output_put_57 rfl (by omega) (by omega) (fun h => absurd h (by omega)) (fun h57 => ?_)
    refine lv_aload_n hx hb d_Output_put_60 rfl (lv_at hl 2 rfl) ?_
    refine zi_iconst hx hb d_Output_put_61 ?_
    refine va_put (D := E.1) (ci := 6) (v := .int (iI (bN true))) (ty := .boolean) (C := "ReplacementWriter$Output") (T := F_Output) (N := 6) hx hb S.2.2.2.2 i_Output t_Output t_Output_ok n_Output S.2.2.2.1 hE.1 hP hD hS 0 rfl rfl 5 (by decide) (S.2.2.2.2 _ zw_159) (fun _ h9 => h9) rfl (by decide +kernel) (bN_nar _) (bN_fit _) (Nat.le_of_ble_eq_true rfl) d_Output_put_62 (fun H locs hP hD hS => ?_)
    have hP : va_P E.1 zcl [(h, .inr (6, [.ref en, .ref ca, .ref rb, .ref (E.2.2.1 (mode + 1)), .ref (E.2.2.1 1), .int (iI (bN true))])), (rb, .inr (1, [.int (iI 262144), .ref q, .int (iI ((out.length : Nat) : Int))])), (q, .inl (E.2.1 0, cap, .inl f))] H := hP
    have hD : va_D A [(h, .inr (6, [.ref en, .ref ca, .ref rb, .ref (E.2.2.1 (mode + 1)), .ref (E.2.2.1 1), .int (iI (bN true))])), (rb, .inr (1, [.int (iI 262144), .ref q, .int (iI ((out.length : Nat) : Int))])), (q, .inl (E.2.1 0, cap, .inl f))] := hD
    have hE := hE0.at hS hA0
    exact zwv S hr hlk hS (⟨rfl, hP, hD⟩) (by (try dsimp only); omega) (by (try dsimp only); omega) d_Output_put_65

set_option maxRecDepth 100000 in
set_option maxHeartbeats 4000000 in
theorem c_Output_isFull (l : Launch) (E : zP) (h e1 e2 e3 e4 e5 : Nat) (fl : Bool) : Met l y_Output_isFull (.code y_Output_isFull b_Output_isFull 1 ( some FieldType.boolean ) :: zw) { frames := 0, cells := 0, slots := 0, locals := 0 } (zPc E [.ref h] (zO E 6 h [.ref e1, .ref e2, .ref e3, .ref e4, .ref e5, .int (iI (bN fl))])) (zR (some (.int (iI (bN fl))))) 0 0 (fun _ => False) := by
  refine zMet (by decide) (Nat.le_of_ble_eq_true rfl) ?_
  intro p e s m below meth c ls S hr hlk hnm hE hp hl
  have hx := S.1
  have hb := S.2.1
  have hl : lv_has ls 1 [(0, .ref h)] := hl
  refine lv_aload_n hx hb d_Output_isFull_0 rfl (lv_at hl 0 rfl) ?_
  refine zgf S hE (ci := 6) rfl i_Output hp 5 (by decide) zw_159 rfl d_Output_isFull_1 ?_
  exact zretZ S hr hlk d_Output_isFull_4 (by rfl)

set_option maxRecDepth 100000 in
set_option maxHeartbeats 4000000 in
theorem c_Output_bytes (l : Launch) (E : zP) (h e1 e2 e3 e4 e5 : Nat) (fl : Bool) : Met l y_Output_bytes (.code y_Output_bytes b_Output_bytes 1 ( some ( FieldType.object "ReplacementWriter$Row" ) ) :: zw) { frames := 0, cells := 0, slots := 0, locals := 0 } (zPc E [.ref h] (zO E 6 h [.ref e1, .ref e2, .ref e3, .ref e4, .ref e5, .int (iI (bN fl))])) (zR (some (.ref e3))) 0 0 (fun _ => False) := by
  refine zMet (by decide) (Nat.le_of_ble_eq_true rfl) ?_
  intro p e s m below meth c ls S hr hlk hnm hE hp hl
  have hx := S.1
  have hb := S.2.1
  have hl : lv_has ls 1 [(0, .ref h)] := hl
  refine lv_aload_n hx hb d_Output_bytes_0 rfl (lv_at hl 0 rfl) ?_
  refine zgf S hE (ci := 6) rfl i_Output hp 2 (by decide) zw_156 rfl d_Output_bytes_1 ?_
  exact zretA S hr (Or.inl ⟨_, rfl⟩) hlk d_Output_bytes_4 rfl

set_option maxRecDepth 100000 in
set_option maxHeartbeats 4000000 in
theorem c_Output_startAnew (l : Launch) (E : zP) (sz : Nat) (h rb q en ca cap mode once : Nat) (fl : Bool) (f : Nat → Int32) (out : List Nat) (hB : zbytes out cap f) : Met l y_Output_startAnew (.code y_Output_startAnew b_Output_startAnew 1 ( Option.none : Option FieldType ) :: zw) { frames := 1, cells := (0), slots := (0), locals := 21 } (zPc E [.ref h] (fun H => H.size = sz ∧ va_P E.1 zcl [(h, .inr (6, [.ref en, .ref ca, .ref rb, .ref (E.2.2.1 (mode + 1)), .ref (E.2.2.1 (once + 1)), .int (iI (bN fl))])), (rb, .inr (1, [.int (iI 262144), .ref q, .int (iI ((out.length : Nat) : Int))])), (q, .inl (E.2.1 0, cap, .inl f))] H ∧ va_D (zOld E) [(h, .inr (6, [.ref en, .ref ca, .ref rb, .ref (E.2.2.1 (mode + 1)), .ref (E.2.2.1 (once + 1)), .int (iI (bN fl))])), (rb, .inr (1, [.int (iI 262144), .ref q, .int (iI ((out.length : Nat) : Int))])), (q, .inl (E.2.1 0, cap, .inl f))] ∧ (True))) (zW (fun v H => v = none ∧ va_P E.1 zcl [(h, .inr (6, [.ref en, .ref ca, .ref rb, .ref (E.2.2.1 (0 + 1)), .ref (E.2.2.1 (0 + 1)), .int (iI (bN false))])), (rb, .inr (1, [.int (iI 262144), .ref q, .int (iI ((([] : List Nat).length : Nat) : Int))])), (q, .inl (E.2.1 0, cap, .inl f))] H ∧ va_D (va_A [(h, .inr (6, [.ref en, .ref ca, .ref rb, .ref (E.2.2.1 (mode + 1)), .ref (E.2.2.1 (once + 1)), .int (iI (bN fl))])), (rb, .inr (1, [.int (iI 262144), .ref q, .int (iI ((out.length : Nat) : Int))])), (q, .inl (E.2.1 0, cap, .inl f))] sz) [(h, .inr (6, [.ref en, .ref ca, .ref rb, .ref (E.2.2.1 (0 + 1)), .ref (E.2.2.1 (0 + 1)), .int (iI (bN false))])), (rb, .inr (1, [.int (iI 262144), .ref q, .int (iI ((([] : List Nat).length : Nat) : Int))])), (q, .inl (E.2.1 0, cap, .inl f))] ∧ zbytes [] cap f) (va_A [(h, .inr (6, [.ref en, .ref ca, .ref rb, .ref (E.2.2.1 (mode + 1)), .ref (E.2.2.1 (once + 1)), .int (iI (bN fl))])), (rb, .inr (1, [.int (iI 262144), .ref q, .int (iI ((out.length : Nat) : Int))])), (q, .inl (E.2.1 0, cap, .inl f))] sz)) (0) (0) (va_A [(h, .inr (6, [.ref en, .ref ca, .ref rb, .ref (E.2.2.1 (mode + 1)), .ref (E.2.2.1 (once + 1)), .int (iI (bN fl))])), (rb, .inr (1, [.int (iI 262144), .ref q, .int (iI ((out.length : Nat) : Int))])), (q, .inl (E.2.1 0, cap, .inl f))] sz) := by
  refine zMet (by decide) (Nat.le_of_ble_eq_true rfl) ?_
  intro p e s m below meth c ls S hr hlk hnm hE ⟨hsz, hP, hDo, hX⟩ hl
  have hx := S.1
  have hb := S.2.1
  have hE0 := hE
  have hl : lv_has ls 1 [(0, .ref h)] := hl
  subst hsz
  have hD := hDo.self (sz := s.heap.size)
  generalize hAe : va_A [(h, .inr (6, [.ref en, .ref ca, .ref rb, .ref (E.2.2.1 (mode + 1)), .ref (E.2.2.1 (once + 1)), .int (iI (bN fl))])), (rb, .inr (1, [.int (iI 262144), .ref q, .int (iI ((out.length : Nat) : Int))])), (q, .inl (E.2.1 0, cap, .inl f))] s.heap.size = A at hD ⊢
  have hA : ∀ q : Nat, s.heap.size ≤ q → A q := fun q h => by rw [← hAe]; exact Or.inr h
  have hA0 := zA0 hE hDo hAe
  have hS : va_S A s.heap s.heap [] := va_S.rf
  refine lv_aload_n hx hb d_Output_startAnew_0 rfl (lv_at hl 0 rfl) ?_
  refine zgf S hE (ci := 6) rfl i_Output (hP 0 _ rfl) 2 (by decide) zw_156 rfl d_Output_startAnew_1 ?_
  refine zi_iconst hx hb d_Output_startAnew_4 ?_
  have hPc := hP.sub (ws' := [(rb, .inr (1, [.int (iI 262144), .ref q, .int (iI ((out.length : Nat) : Int))]))]) [1] rfl
  have hDc := hD.sub (ws' := [(rb, .inr (1, [.int (iI 262144), .ref q, .int (iI ((out.length : Nat) : Int))]))]) [1] (by decide) rfl
  have hFc := va_free (wc := [(rb, .inr (1, [.int (iI 262144), .ref q, .int (iI ((out.length : Nat) : Int))]))]) hD hS hA [1] rfl
  refine zcW (va_runV (As := [.int (iI 0)]) (rest := []) S (c_Row_cutTo l E s.heap.size rb q out.length 262144 0 (by omega) (by have := hB.1; have := hB.2.1; omega)) ⟨zcwB (n := 1) S zw_396 zw_2 zw_653 (by decide +kernel) rfl rfl ⟨Nat.le_of_ble_eq_true rfl, Nat.le_of_ble_eq_true rfl⟩, S.2.2.2.2 _ zw_394, S.2.2.2.2 _ zw_395⟩ (zPreV hE (hP 1 _ rfl) rfl ⟨rfl, hPc, hDc.weaken (fun _ _ _ h => hA0 _ h), trivial⟩) rfl rfl hl.1 rfl (lv_room (Nat.le_of_ble_eq_true rfl)) d_Output_startAnew_5 ⟨by (try dsimp only); omega, by (try dsimp only); omega⟩) hS (fun q _ h => hFc q h) hFc (fun v H locs hq hz1 hk1 hS => ?_)
  obtain ⟨rfl, hP1, hD1⟩ := hq
  obtain ⟨hP, hD⟩ := va_join (wr := [(h, .inr (6, [.ref en, .ref ca, .ref rb, .ref (E.2.2.1 (mode + 1)), .ref (E.2.2.1 (once + 1)), .int (iI (bN fl))])), (q, .inl (E.2.1 0, cap, .inl f))]) (w1 := [(rb, .inr (1, [.int (iI 262144), .ref q, .int (iI (if (0 : Int) ≤ 0 ∧ (0 : Int) < (out.length : Int) then 0 else (out.length : Int)))]))]) hP hD [1] [0, 2] rfl rfl (by decide) (by decide) hk1 hFc hP1 hD1
  have hP : va_P E.1 zcl [(h, .inr (6, [.ref en, .ref ca, .ref rb, .ref (E.2.2.1 (mode + 1)), .ref (E.2.2.1 (once + 1)), .int (iI (bN fl))])), (q, .inl (E.2.1 0, cap, .inl f)), (rb, .inr (1, [.int (iI 262144), .ref q, .int (iI (if (0 : Int) ≤ 0 ∧ (0 : Int) < (out.length : Int) then 0 else (out.length : Int)))]))] H := hP
  have hD : va_D A [(h, .inr (6, [.ref en, .ref ca, .ref rb, .ref (E.2.2.1 (mode + 1)), .ref (E.2.2.1 (once + 1)), .int (iI (bN fl))])), (q, .inl (E.2.1 0, cap, .inl f)), (rb, .inr (1, [.int (iI 262144), .ref q, .int (iI (if (0 : Int) ≤ 0 ∧ (0 : Int) < (out.length : Int) then 0 else (out.length : Int)))]))] := hD
  have hE := hE0.at hS hA0
  have e0 : (if (0 : Int) ≤ 0 ∧ (0 : Int) < (out.length : Int) then 0 else (out.length : Int)) = ((([] : List Nat).length : Nat) : Int) := by simp only [List.length_nil]; omega
  rw [e0] at hP hD
  refine lv_aload_n hx hb d_Output_startAnew_8 rfl (lv_at hl 0 rfl) ?_
  refine zgs S hE.asis zw_152 d_Output_startAnew_9 ?_
  refine va_put (D := E.1) (ci := 6) (v := .ref (E.2.2.1 1)) (ty := .object "ReplacementWriter$Turn") (C := "ReplacementWriter$Output") (T := F_Output) (N := 6) hx hb S.2.2.2.2 i_Output t_Output t_Output_ok n_Output S.2.2.2.1 hE.1 hP hD hS 0 rfl rfl 3 (by decide) (S.2.2.2.2 _ zw_157) (fun _ h9 => h9) rfl (by decide +kernel) rfl rfl (Nat.le_of_ble_eq_true rfl) d_Output_startAnew_12 (fun H locs hP hD hS => ?_)
  have hP : va_P E.1 zcl [(h, .inr (6, [.ref en, .ref ca, .ref rb, .ref (E.2.2.1 1), .ref (E.2.2.1 (once + 1)), .int (iI (bN fl))])), (q, .inl (E.2.1 0, cap, .inl f)), (rb, .inr (1, [.int (iI 262144), .ref q, .int (iI ((([] : List Nat).length : Nat) : Int))]))] H := hP
  have hD : va_D A [(h, .inr (6, [.ref en, .ref ca, .ref rb, .ref (E.2.2.1 1), .ref (E.2.2.1 (once + 1)), .int (iI (bN fl))])), (q, .inl (E.2.1 0, cap, .inl f)), (rb, .inr (1, [.int (iI 262144), .ref q, .int (iI ((([] : List Nat).length : Nat) : Int))]))] := hD
  have hE := hE0.at hS hA0
  refine lv_aload_n hx hb d_Output_startAnew_15 rfl (lv_at hl 0 rfl) ?_
  refine zgs S hE.asis zw_152 d_Output_startAnew_16 ?_
  refine va_put (D := E.1) (ci := 6) (v := .ref (E.2.2.1 1)) (ty := .object "ReplacementWriter$Turn") (C := "ReplacementWriter$Output") (T := F_Output) (N := 6) hx hb S.2.2.2.2 i_Output t_Output t_Output_ok n_Output S.2.2.2.1 hE.1 hP hD hS 0 rfl rfl 4 (by decide) (S.2.2.2.2 _ zw_158) (fun _ h9 => h9) rfl (by decide +kernel) rfl rfl (Nat.le_of_ble_eq_true rfl) d_Output_startAnew_19 (fun H locs hP hD hS => ?_)
  have hP : va_P E.1 zcl [(h, .inr (6, [.ref en, .ref ca, .ref rb, .ref (E.2.2.1 1), .ref (E.2.2.1 1), .int (iI (bN fl))])), (q, .inl (E.2.1 0, cap, .inl f)), (rb, .inr (1, [.int (iI 262144), .ref q, .int (iI ((([] : List Nat).length : Nat) : Int))]))] H := hP
  have hD : va_D A [(h, .inr (6, [.ref en, .ref ca, .ref rb, .ref (E.2.2.1 1), .ref (E.2.2.1 1), .int (iI (bN fl))])), (q, .inl (E.2.1 0, cap, .inl f)), (rb, .inr (1, [.int (iI 262144), .ref q, .int (iI ((([] : List Nat).length : Nat) : Int))]))] := hD
  have hE := hE0.at hS hA0
  refine lv_aload_n hx hb d_Output_startAnew_22 rfl (lv_at hl 0 rfl) ?_
  refine zi_iconst hx hb d_Output_startAnew_23 ?_
  refine va_put (D := E.1) (ci := 6) (v := .int (iI (bN false))) (ty := .boolean) (C := "ReplacementWriter$Output") (T := F_Output) (N := 6) hx hb S.2.2.2.2 i_Output t_Output t_Output_ok n_Output S.2.2.2.1 hE.1 hP hD hS 0 rfl rfl 5 (by decide) (S.2.2.2.2 _ zw_159) (fun _ h9 => h9) rfl (by decide +kernel) (bN_nar _) (bN_fit _) (Nat.le_of_ble_eq_true rfl) d_Output_startAnew_24 (fun H locs hP hD hS => ?_)
  have hP : va_P E.1 zcl [(h, .inr (6, [.ref en, .ref ca, .ref rb, .ref (E.2.2.1 1), .ref (E.2.2.1 1), .int (iI (bN false))])), (q, .inl (E.2.1 0, cap, .inl f)), (rb, .inr (1, [.int (iI 262144), .ref q, .int (iI ((([] : List Nat).length : Nat) : Int))]))] H := hP
  have hD : va_D A [(h, .inr (6, [.ref en, .ref ca, .ref rb, .ref (E.2.2.1 1), .ref (E.2.2.1 1), .int (iI (bN false))])), (q, .inl (E.2.1 0, cap, .inl f)), (rb, .inr (1, [.int (iI 262144), .ref q, .int (iI ((([] : List Nat).length : Nat) : Int))]))] := hD
  have hE := hE0.at hS hA0
  exact zwv S hr hlk hS (⟨rfl, hP.sub (ws' := [(h, .inr (6, [.ref en, .ref ca, .ref rb, .ref (E.2.2.1 (0 + 1)), .ref (E.2.2.1 (0 + 1)), .int (iI (bN false))])), (rb, .inr (1, [.int (iI 262144), .ref q, .int (iI ((([] : List Nat).length : Nat) : Int))])), (q, .inl (E.2.1 0, cap, .inl f))]) [0, 2, 1] rfl, hD.sub (ws' := [(h, .inr (6, [.ref en, .ref ca, .ref rb, .ref (E.2.2.1 (0 + 1)), .ref (E.2.2.1 (0 + 1)), .int (iI (bN false))])), (rb, .inr (1, [.int (iI 262144), .ref q, .int (iI ((([] : List Nat).length : Nat) : Int))])), (q, .inl (E.2.1 0, cap, .inl f))]) [0, 2, 1] (by decide) rfl, zbytes_cut (k := 0) hB⟩) (by (try dsimp only); omega) (by (try dsimp only); omega) d_Output_startAnew_27

set_option maxRecDepth 100000 in
set_option maxHeartbeats 4000000 in
theorem c_Output_copy (l : Launch) (E : zP) (sz : Nat) (Z : Nat → Prop) (h rb q en ca cap mode once r k0 : Nat) (utf ucp : Bool) (f : Nat → Int32) (out b cs rst : List Nat) (oF : sp_O) (hB : zbytes out cap f) (hF : zfit cap f) (hc : sp_capok cap) (hmode : mode ≤ 2) (honce : once ≤ 2) (hdr : b.drop k0 = sp_encs utf cs ++ rst) (hoks : sp_oks utf cs) (hk0 : k0 ≤ b.length) (hall : sp_all utf ucp cs (out, mode, once) = some oF) : Met l y_Output_copy (.code y_Output_copy b_Output_copy 5 ( Option.none : Option FieldType ) :: zw) { frames := 4, cells := ((max cap (sp_up oF.1.length) - cap) / 16), slots := (2 * (max cap (sp_up oF.1.length) - cap)), locals := 106 } (zPc E [.ref h, .ref r, .int (iI ((k0 : Nat) : Int)), .int (iI ((k0 + (sp_encs utf cs).length : Nat) : Int))] (fun H => H.size = sz ∧ va_P E.1 zcl [(h, .inr (6, [.ref en, .ref ca, .ref rb, .ref (E.2.2.1 (mode + 1)), .ref (E.2.2.1 (once + 1)), .int (iI (bN false))])), (rb, .inr (1, [.int (iI 262144), .ref q, .int (iI ((out.length : Nat) : Int))])), (q, .inl (E.2.1 0, cap, .inl f))] H ∧ va_D (fun x => zOld E x ∧ ¬ Z x) [(h, .inr (6, [.ref en, .ref ca, .ref rb, .ref (E.2.2.1 (mode + 1)), .ref (E.2.2.1 (once + 1)), .int (iI (bN false))])), (rb, .inr (1, [.int (iI 262144), .ref q, .int (iI ((out.length : Nat) : Int))])), (q, .inl (E.2.1 0, cap, .inl f))] ∧ (∀ q, Z q → q < sz) ∧ (Z en ∧ Z ca ∧ zO E 2 en [.int (iI (bN utf))] H ∧ zO E 3 ca [.int (iI ((5 * sp_many utf ucp : Nat) : Int))] H ∧ zrowZ E Z r b H))) (zW (fun v H => v = none ∧ ∃ (q2 : Nat) (f2 : Nat → Int32), va_P E.1 zcl [(h, .inr (6, [.ref en, .ref ca, .ref rb, .ref (E.2.2.1 (oF.2.1 + 1)), .ref (E.2.2.1 (oF.2.2 + 1)), .int (iI (bN false))])), (rb, .inr (1, [.int (iI 262144), .ref q2, .int (iI ((oF.1.length : Nat) : Int))])), (q2, .inl (E.2.1 0, max cap (sp_up oF.1.length), .inl f2))] H ∧ va_D (va_A [(h, .inr (6, [.ref en, .ref ca, .ref rb, .ref (E.2.2.1 (mode + 1)), .ref (E.2.2.1 (once + 1)), .int (iI (bN false))])), (rb, .inr (1, [.int (iI 262144), .ref q, .int (iI ((out.length : Nat) : Int))])), (q, .inl (E.2.1 0, cap, .inl f))] sz) [(h, .inr (6, [.ref en, .ref ca, .ref rb, .ref (E.2.2.1 (oF.2.1 + 1)), .ref (E.2.2.1 (oF.2.2 + 1)), .int (iI (bN false))])), (rb, .inr (1, [.int (iI 262144), .ref q2, .int (iI ((oF.1.length : Nat) : Int))])), (q2, .inl (E.2.1 0, max cap (sp_up oF.1.length), .inl f2))] ∧ zbytes oF.1 (max cap (sp_up oF.1.length)) f2 ∧ zfit (max cap (sp_up oF.1.length)) f2) (va_A [(h, .inr (6, [.ref en, .ref ca, .ref rb, .ref (E.2.2.1 (mode + 1)), .ref (E.2.2.1 (once + 1)), .int (iI (bN false))])), (rb, .inr (1, [.int (iI 262144), .ref q, .int (iI ((out.length : Nat) : Int))])), (q, .inl (E.2.1 0, cap, .inl f))] sz)) ((max cap (sp_up oF.1.length) - cap) / 16) (2 * (max cap (sp_up oF.1.length) - cap)) (va_A [(h, .inr (6, [.ref en, .ref ca, .ref rb, .ref (E.2.2.1 (mode + 1)), .ref (E.2.2.1 (once + 1)), .int (iI (bN false))])), (rb, .inr (1, [.int (iI 262144), .ref q, .int (iI ((out.length : Nat) : Int))])), (q, .inl (E.2.1 0, cap, .inl f))] sz) := by
  refine zMet (by decide) (Nat.le_of_ble_eq_true rfl) ?_
  intro p e s m below meth c ls S hr hlk hnm hE ⟨hsz, hP, hDo, hZb, hze, hzc, hen, hca, hrow⟩ hl
  have hx := S.1
  have hb := S.2.1
  have hE0 := hE
  have hl : lv_has ls 5 [(0, .ref h), (1, .ref r), (2, .int (iI ((k0 : Nat) : Int))), (3, .int (iI ((k0 + (sp_encs utf cs).length : Nat) : Int)))] := hl
  subst hsz
  have hD := hDo.self (sz := s.heap.size)
  generalize hAe : va_A [(h, .inr (6, [.ref en, .ref ca, .ref rb, .ref (E.2.2.1 (mode + 1)), .ref (E.2.2.1 (once + 1)), .int (iI (bN false))])), (rb, .inr (1, [.int (iI 262144), .ref q, .int (iI ((out.length : Nat) : Int))])), (q, .inl (E.2.1 0, cap, .inl f))] s.heap.size = A at hD ⊢
  have hA : ∀ q : Nat, s.heap.size ≤ q → A q := fun q h => by rw [← hAe]; exact Or.inr h
  have hA1 := zAZ hE hDo hZb hAe
  have hA0 : ∀ q, A q → zOld E q := fun q h => (hA1 q h).1
  have hAZ : ∀ q, Z q → ¬ A q := fun q z h => (hA1 q h).2 z
  have hS : va_S A s.heap s.heap [] := va_S.rf
  have hbl := (zrowZ.row hrow).len
  have hcr := sp_capok_r hc
  have hlt0 : (b.drop k0).length = (sp_encs utf cs ++ rst).length := by rw [hdr]
  rw [List.length_drop, List.length_append] at hlt0
  obtain ⟨capF, hcapF0⟩ : ∃ x, x = max cap (sp_up oF.1.length) := ⟨_, rfl⟩
  rw [← hcapF0]
  refine lv_iload_n hx hb d_Output_copy_0 rfl (lv_at hl 2 rfl) ?_
  refine lv_istore (lv' := [(4, .int (iI ((k0 : Nat) : Int))), (0, .ref h), (1, .ref r), (2, .int (iI ((k0 : Nat) : Int))), (3, .int (iI ((k0 + (sp_encs utf cs).length : Nat) : Int)))]) hx hb d_Output_copy_1 hl (by decide) rfl (fun ls hl => ?_)
  have hP := hP.sub (ws' := [(h, .inr (6, [.ref en, .ref ca, .ref rb, .ref (E.2.2.1 (mode + 1)), .ref (E.2.2.1 (once + 1)), .int (iI (bN false))])), (rb, .inr (1, [.int (iI 262144), .ref q, .int (iI ((out.length : Nat) : Int))])), (q, .inl (E.2.1 0, cap, .inl f))]) [0, 1, 2] rfl
  have hD := hD.sub (ws' := [(h, .inr (6, [.ref en, .ref ca, .ref rb, .ref (E.2.2.1 (mode + 1)), .ref (E.2.2.1 (once + 1)), .int (iI (bN false))])), (rb, .inr (1, [.int (iI 262144), .ref q, .int (iI ((out.length : Nat) : Int))])), (q, .inl (E.2.1 0, cap, .inl f))]) [0, 1, 2] (by decide) rfl
  refine zloop (fun (x : (List Nat) × Nat × (List Nat) × Nat × Nat × Nat × (Nat → Int32)) H locs ls cells slots => match x with | (cs1, k, out1, once1, q1, cap1, f1) => cells = (cap1 - cap) / 16 ∧ slots = 2 * (cap1 - cap) ∧ lv_has ls 5 [(4, .int (iI ((k : Nat) : Int))), (0, .ref h), (1, .ref r), (2, .int (iI ((k0 : Nat) : Int))), (3, .int (iI ((k0 + (sp_encs utf cs).length : Nat) : Int)))] ∧ va_P E.1 zcl [(h, .inr (6, [.ref en, .ref ca, .ref rb, .ref (E.2.2.1 (mode + 1)), .ref (E.2.2.1 (once1 + 1)), .int (iI (bN false))])), (rb, .inr (1, [.int (iI 262144), .ref q1, .int (iI ((out1.length : Nat) : Int))])), (q1, .inl (E.2.1 0, cap1, .inl f1))] H ∧ va_D A [(h, .inr (6, [.ref en, .ref ca, .ref rb, .ref (E.2.2.1 (mode + 1)), .ref (E.2.2.1 (once1 + 1)), .int (iI (bN false))])), (rb, .inr (1, [.int (iI 262144), .ref q1, .int (iI ((out1.length : Nat) : Int))])), (q1, .inl (E.2.1 0, cap1, .inl f1))] ∧ va_S A s.heap H locs ∧ (b.drop k = sp_encs utf cs1 ++ rst ∧ sp_oks utf cs1 ∧ k + (sp_encs utf cs1).length = k0 + (sp_encs utf cs).length ∧ sp_all utf ucp cs1 (out1, mode, once1) = some oF ∧ zbytes out1 cap1 f1 ∧ zfit cap1 f1 ∧ sp_capok cap1 ∧ once1 ≤ 2 ∧ cap ≤ cap1 ∧ max cap1 (sp_up oF.1.length) = capF)) (fun x => match x with | (cs1, k, out1, once1, q1, cap1, f1) => cs1.length) ?_ (cs, k0, out, once, q, cap, f) ⟨by simp, by simp, hl, hP, hD, hS, ⟨hdr, hoks, rfl, hall, hB, hF, hc, honce, Nat.le_refl _, hcapF0.symm⟩⟩
  clear hl hP hD hS
  rintro ⟨cs1, k, out1, once1, q1, cap1, f1⟩ H locs ls cells slots ⟨rfl, rfl, hl, hP, hD, hS, ⟨i1, i2, i3, i4, i5, i6, i7, i8, i9, i10⟩⟩ ih
  have hE := hE0.at hS hA0
  have hcr1 := sp_capok_r i7
  have hbl := (zrowZ.row hrow).len
  have hlt1 : (b.drop k).length = (sp_encs utf cs1 ++ rst).length := by rw [i1]
  rw [List.length_drop, List.length_append] at hlt1
  refine lv_iload hx hb d_Output_copy_3 (lv_at hl 0 rfl) ?_
  refine lv_iload_n hx hb d_Output_copy_5 rfl (lv_at hl 4 rfl) ?_
  refine zi_icmp_ge hx hb d_Output_copy_6 rfl (by omega) (by omega) (fun h6 => ?_) (fun h6 => ?_)
  · have ec : cs1 = [] := sp_encs_zero (utf := utf) (by omega)
    rw [ec] at i4
    have eo : (out1, mode, once1) = oF := Option.some.inj i4
    subst eo
    have ecap : cap1 = capF := by rw [← i10, Nat.max_eq_left (sp_up_le i7 i5.1)]
    subst ecap
    exact zwv S hr hlk hS (⟨rfl, q1, f1, hP, hD, i5, i6⟩) (by (try dsimp only); omega) (by (try dsimp only); omega) d_Output_copy_55
  · obtain ⟨c, cs2, ec⟩ := sp_encs_pos (utf := utf) (cs := cs1) (by omega)
    have hokc : sp_ok utf c = true := i2 c (by rw [ec]; exact List.mem_cons_self)
    have i1c := i1
    rw [ec, sp_encs_cons, List.append_assoc] at i1c
    obtain ⟨e1, e2, e3, e4⟩ := sp_enc_at i1c hokc
    have hln1 := sp_len_le utf c
    have hkb : k < b.length := by omega
    obtain ⟨how, hhow⟩ : ∃ x, x = if once1 = 0 then mode else once1 := ⟨_, rfl⟩
    obtain ⟨t, ht⟩ : ∃ x, x = sp_case utf ucp how c := ⟨_, rfl⟩
    refine lv_aload_n hx hb d_Output_copy_9 rfl (lv_at hl 1 rfl) ?_
    refine zgf S hE (ci := 6) rfl i_Output (hP 0 _ rfl) 5 (by decide) zw_159 rfl d_Output_copy_10 ?_
    refine zb_ifne hx hb d_Output_copy_13 rfl (fun h => absurd h (by decide)) (fun _ => ?_)
    refine lv_aload_n hx hb d_Output_copy_16 rfl (lv_at hl 1 rfl) ?_
    refine lv_aload_n hx hb d_Output_copy_17 rfl (lv_at hl 1 rfl) ?_
    refine zgf S hE (ci := 6) rfl i_Output (hP 0 _ rfl) 0 (by decide) zw_154 rfl d_Output_copy_18 ?_
    refine lv_aload_n hx hb d_Output_copy_21 rfl (lv_at hl 2 rfl) ?_
    refine lv_iload hx hb d_Output_copy_22 (lv_at hl 0 rfl) ?_
    refine zcR (va_runV (As := [.ref r, .int (iI ((k : Nat) : Int))]) (rest := [.ref h]) S (c_Encoding_characterAt l E en r utf b k hkb (by omega)) ⟨zcwB (n := 2) S zw_445 zw_7 zw_667 (by decide +kernel) rfl rfl ⟨Nat.le_of_ble_eq_true rfl, Nat.le_of_ble_eq_true rfl⟩, S.2.2.2.2 _ zw_443, S.2.2.2.2 _ zw_444⟩ (zPreV hE (zfz hS hen (hAZ _ hze)) rfl ⟨(zfz hS hen (hAZ _ hze)), (zrowZ.row (zrowZ.fz hrow hS hAZ))⟩) rfl rfl hl.1 rfl (lv_room (Nat.le_of_ble_eq_true rfl)) d_Output_copy_24 ⟨by (try dsimp only); omega, by (try dsimp only); omega⟩) ?_
    rw [e2]
    have hfit : out1.length + sp_len utf t ≤ 262144 := by
      by_cases hf : out1.length + sp_len utf t ≤ 262144
      · exact hf
      · rw [ec, sp_all, sp_one_none hhow ht hf] at i4; cases i4
    have h1 := sp_one_some (ucp := ucp) hhow ht hfit
    have hlen : (out1 ++ sp_enc utf t).length ≤ oF.1.length := by have i4b := i4; rw [ec, sp_all_cons h1] at i4b; exact (sp_all_len _ _ _ i4b).1
    have hroom : max cap1 (sp_up (out1 ++ sp_enc utf t).length) ≤ capF := by rw [← i10]; have := sp_up_mono hlen; omega
    have hPc := hP.sub (ws' := [(h, .inr (6, [.ref en, .ref ca, .ref rb, .ref (E.2.2.1 (mode + 1)), .ref (E.2.2.1 (once1 + 1)), .int (iI (bN false))])), (rb, .inr (1, [.int (iI 262144), .ref q1, .int (iI ((out1.length : Nat) : Int))])), (q1, .inl (E.2.1 0, cap1, .inl f1))]) [0, 1, 2] rfl
    have hDc := hD.sub (ws' := [(h, .inr (6, [.ref en, .ref ca, .ref rb, .ref (E.2.2.1 (mode + 1)), .ref (E.2.2.1 (once1 + 1)), .int (iI (bN false))])), (rb, .inr (1, [.int (iI 262144), .ref q1, .int (iI ((out1.length : Nat) : Int))])), (q1, .inl (E.2.1 0, cap1, .inl f1))]) [0, 1, 2] (by decide) rfl
    have hFc := va_free (wc := [(h, .inr (6, [.ref en, .ref ca, .ref rb, .ref (E.2.2.1 (mode + 1)), .ref (E.2.2.1 (once1 + 1)), .int (iI (bN false))])), (rb, .inr (1, [.int (iI 262144), .ref q1, .int (iI ((out1.length : Nat) : Int))])), (q1, .inl (E.2.1 0, cap1, .inl f1))]) hD hS hA [0, 1, 2] rfl
    refine zcW (va_runV (As := [.int (iI ((c : Nat) : Int))]) (rest := []) S (c_Output_put l E H.size Z h rb q1 en ca cap1 mode once1 c how t utf ucp f1 out1 i5 i6 i7 hmode i8 hokc hhow ht hfit) ⟨zcwB (n := 1) S zw_671 zw_8 zw_668 (by decide +kernel) rfl rfl ⟨Nat.le_of_ble_eq_true rfl, Nat.le_of_ble_eq_true rfl⟩, S.2.2.2.2 _ zw_669, S.2.2.2.2 _ zw_670⟩ (zPreV hE (hP 0 _ rfl) rfl ⟨rfl, hPc, hDc.weaken (fun _ _ _ h => ⟨hA0 _ h, fun z => hAZ _ z h⟩), (fun q z => Nat.lt_of_lt_of_le (hZb q z) hS.1), hze, hzc, (zfz hS hen (hAZ _ hze)), (zfz hS hca (hAZ _ hzc))⟩) rfl rfl hl.1 rfl (lv_room (Nat.le_of_ble_eq_true rfl)) d_Output_copy_27 ⟨by (try dsimp only); omega, by (try dsimp only); omega⟩) hS (fun q _ h => hFc q h) hFc (fun v H locs hq hz1 hk1 hS => ?_)
    obtain ⟨rfl, q2, f2, hP1, hD1, hB2, hF2⟩ := hq
    obtain ⟨hP, hD⟩ := va_join (wr := []) (w1 := [(h, .inr (6, [.ref en, .ref ca, .ref rb, .ref (E.2.2.1 (mode + 1)), .ref (E.2.2.1 (0 + 1)), .int (iI (bN false))])), (rb, .inr (1, [.int (iI 262144), .ref q2, .int (iI (((out1 ++ sp_enc utf t).length : Nat) : Int))])), (q2, .inl (E.2.1 0, max cap1 (sp_up (out1 ++ sp_enc utf t).length), .inl f2))]) hP hD [0, 1, 2] [] rfl rfl (by decide) (by decide) hk1 hFc hP1 hD1
    have hP : va_P E.1 zcl [(h, .inr (6, [.ref en, .ref ca, .ref rb, .ref (E.2.2.1 (mode + 1)), .ref (E.2.2.1 (0 + 1)), .int (iI (bN false))])), (rb, .inr (1, [.int (iI 262144), .ref q2, .int (iI (((out1 ++ sp_enc utf t).length : Nat) : Int))])), (q2, .inl (E.2.1 0, max cap1 (sp_up (out1 ++ sp_enc utf t).length), .inl f2))] H := hP
    have hD : va_D A [(h, .inr (6, [.ref en, .ref ca, .ref rb, .ref (E.2.2.1 (mode + 1)), .ref (E.2.2.1 (0 + 1)), .int (iI (bN false))])), (rb, .inr (1, [.int (iI 262144), .ref q2, .int (iI (((out1 ++ sp_enc utf t).length : Nat) : Int))])), (q2, .inl (E.2.1 0, max cap1 (sp_up (out1 ++ sp_enc utf t).length), .inl f2))] := hD
    have hE := hE0.at hS hA0
    have hcm : cap1 ≤ max cap1 (sp_up (out1 ++ sp_enc utf t).length) := Nat.le_max_left _ _
    refine lv_iload hx hb d_Output_copy_30 (lv_at hl 0 rfl) ?_
    refine zi_iconst hx hb d_Output_copy_32 ?_
    refine lv_aload_n hx hb d_Output_copy_33 rfl (lv_at hl 1 rfl) ?_
    refine zgf S hE (ci := 6) rfl i_Output (hP 0 _ rfl) 0 (by decide) zw_154 rfl d_Output_copy_34 ?_
    refine lv_aload_n hx hb d_Output_copy_37 rfl (lv_at hl 2 rfl) ?_
    refine lv_iload hx hb d_Output_copy_38 (lv_at hl 0 rfl) ?_
    refine zcR (va_runV (As := [.int (iI ((k : Nat) : Int))]) (rest := [.ref en, .int (iI 1), .int (iI ((k : Nat) : Int))]) S (c_Row_at l E r b ((k : Nat) : Int) (by omega)) ⟨zcwB (n := 1) S zw_437 zw_2 zw_685 (by decide +kernel) rfl rfl ⟨Nat.le_of_ble_eq_true rfl, Nat.le_of_ble_eq_true rfl⟩, S.2.2.2.2 _ zw_435, S.2.2.2.2 _ zw_436⟩ (zPreVrow hE (zrowZ.row (zrowZ.fz hrow hS hAZ)) (zrowZ.row (zrowZ.fz hrow hS hAZ))) rfl rfl hl.1 rfl (lv_room (Nat.le_of_ble_eq_true rfl)) d_Output_copy_40 ⟨by (try dsimp only); omega, by (try dsimp only); omega⟩) ?_
    rw [sp_at_in (n := k) (by omega) (by omega)]
    have hb40 := sp_b_lt (zrow.lt (zrowZ.row (zrowZ.fz hrow hS hAZ))) (k)
    have hbk := sp_b_lt (zrow.lt (zrowZ.row hrow)) k
    refine zcR (va_runV (As := [.int (iI ((sp_b b k : Nat) : Int))]) (rest := [.int (iI 1), .int (iI ((k : Nat) : Int))]) S (c_Encoding_lengthBehind l E en utf (sp_b b k) hbk) ⟨zcwB (n := 1) S zw_441 zw_7 zw_686 (by decide +kernel) rfl rfl ⟨Nat.le_of_ble_eq_true rfl, Nat.le_of_ble_eq_true rfl⟩, S.2.2.2.2 _ zw_439, S.2.2.2.2 _ zw_440⟩ (zPreV hE (zfz hS hen (hAZ _ hze)) rfl (zfz hS hen (hAZ _ hze))) rfl rfl hl.1 rfl (lv_room (Nat.le_of_ble_eq_true rfl)) d_Output_copy_43 ⟨by (try dsimp only); omega, by (try dsimp only); omega⟩) ?_
    rw [e1]
    refine zcR (va_runS (As := [.int (iI 1), .int (iI ((sp_len utf c : Nat) : Int))]) (rest := [.int (iI ((k : Nat) : Int))]) S (c_Math_max l E 1 ((sp_len utf c : Nat) : Int) (by omega) (by omega)) ⟨zcwB (n := 2) S zw_461 zw_23 zw_687 (by decide +kernel) rfl rfl ⟨Nat.le_of_ble_eq_true rfl, Nat.le_of_ble_eq_true rfl⟩, S.2.2.2.2 _ zw_460⟩ (zPreS hE trivial) rfl rfl hl.1 rfl (lv_room (Nat.le_of_ble_eq_true rfl)) d_Output_copy_46 ⟨by (try dsimp only); omega, by (try dsimp only); omega⟩) ?_
    rw [show max (1 : Int) ((sp_len utf c : Nat) : Int) = ((sp_len utf c : Nat) : Int) by omega]
    refine zi_iadd hx hb d_Output_copy_49 ?_
    rw [show ((k : Nat) : Int) + ((sp_len utf c : Nat) : Int) = ((k + sp_len utf c : Nat) : Int) by omega]
    refine lv_istore (lv' := [(4, .int (iI ((k + sp_len utf c : Nat) : Int))), (0, .ref h), (1, .ref r), (2, .int (iI ((k0 : Nat) : Int))), (3, .int (iI ((k0 + (sp_encs utf cs).length : Nat) : Int)))]) hx hb d_Output_copy_50 hl (by decide) rfl (fun ls hl => ?_)
    refine lv_goto hx hb d_Output_copy_52 rfl ?_
    refine W.widen (k := (max cap1 (sp_up (out1 ++ sp_enc utf t).length) - cap) / 16) (n := 2 * (max cap1 (sp_up (out1 ++ sp_enc utf t).length) - cap)) (by (try dsimp only); omega) (by (try dsimp only); omega) ?_
    exact ih (cs2, k + sp_len utf c, out1 ++ sp_enc utf t, 0, q2, max cap1 (sp_up (out1 ++ sp_enc utf t).length), f2) H locs ls _ _ (by dsimp only; rw [ec]; simp) ⟨rfl, rfl, lv_sub hl [0, 1, 2, 3, 4] rfl, hP.sub (ws' := [(h, .inr (6, [.ref en, .ref ca, .ref rb, .ref (E.2.2.1 (mode + 1)), .ref (E.2.2.1 (0 + 1)), .int (iI (bN false))])), (rb, .inr (1, [.int (iI 262144), .ref q2, .int (iI (((out1 ++ sp_enc utf t).length : Nat) : Int))])), (q2, .inl (E.2.1 0, max cap1 (sp_up (out1 ++ sp_enc utf t).length), .inl f2))]) [0, 1, 2] rfl, hD.sub (ws' := [(h, .inr (6, [.ref en, .ref ca, .ref rb, .ref (E.2.2.1 (mode + 1)), .ref (E.2.2.1 (0 + 1)), .int (iI (bN false))])), (rb, .inr (1, [.int (iI 262144), .ref q2, .int (iI (((out1 ++ sp_enc utf t).length : Nat) : Int))])), (q2, .inl (E.2.1 0, max cap1 (sp_up (out1 ++ sp_enc utf t).length), .inl f2))]) [0, 1, 2] (by decide) rfl, hS, ⟨e4, fun x hx => i2 x (by rw [ec]; exact List.mem_cons_of_mem _ hx), by rw [ec, sp_encs_cons, List.length_append, sp_enc_len] at i3; omega, by rw [← i4, ec, sp_all_cons h1], hB2, hF2, sp_capok_max i7 (sp_up_ok _), by omega, by omega, by rw [← i10]; exact sp_max_max hlen⟩⟩

set_option maxRecDepth 100000 in
set_option maxHeartbeats 4000000 in
theorem c_Output_copy_full (l : Launch) (E : zP) (sz : Nat) (Z : Nat → Prop) (h rb q en ca cap mode once r k0 : Nat) (utf ucp : Bool) (f : Nat → Int32) (out b cs rst : List Nat) (hB : zbytes out cap f) (hF : zfit cap f) (hc : sp_capok cap) (hmode : mode ≤ 2) (honce : once ≤ 2) (hdr : b.drop k0 = sp_encs utf cs ++ rst) (hoks : sp_oks utf cs) (hk0 : k0 ≤ b.length) (hall : sp_all utf ucp cs (out, mode, once) = none) : Met l y_Output_copy (.code y_Output_copy b_Output_copy 5 ( Option.none : Option FieldType ) :: zw) { frames := 4, cells := ((262144 - cap) / 16), slots := (2 * (262144 - cap)), locals := 106 } (zPc E [.ref h, .ref r, .int (iI ((k0 : Nat) : Int)), .int (iI ((k0 + (sp_encs utf cs).length : Nat) : Int))] (fun H => H.size = sz ∧ va_P E.1 zcl [(h, .inr (6, [.ref en, .ref ca, .ref rb, .ref (E.2.2.1 (mode + 1)), .ref (E.2.2.1 (once + 1)), .int (iI (bN false))])), (rb, .inr (1, [.int (iI 262144), .ref q, .int (iI ((out.length : Nat) : Int))])), (q, .inl (E.2.1 0, cap, .inl f))] H ∧ va_D (fun x => zOld E x ∧ ¬ Z x) [(h, .inr (6, [.ref en, .ref ca, .ref rb, .ref (E.2.2.1 (mode + 1)), .ref (E.2.2.1 (once + 1)), .int (iI (bN false))])), (rb, .inr (1, [.int (iI 262144), .ref q, .int (iI ((out.length : Nat) : Int))])), (q, .inl (E.2.1 0, cap, .inl f))] ∧ (∀ q, Z q → q < sz) ∧ (Z en ∧ Z ca ∧ zO E 2 en [.int (iI (bN utf))] H ∧ zO E 3 ca [.int (iI ((5 * sp_many utf ucp : Nat) : Int))] H ∧ zrowZ E Z r b H))) (zW (fun v H => v = none ∧ ∃ (q2 : Nat) (f2 : Nat → Int32) (out2 : List Nat), va_P E.1 zcl [(h, .inr (6, [.ref en, .ref ca, .ref rb, .ref (E.2.2.1 (mode + 1)), .ref (E.2.2.1 (0 + 1)), .int (iI (bN true))])), (rb, .inr (1, [.int (iI 262144), .ref q2, .int (iI ((out2.length : Nat) : Int))])), (q2, .inl (E.2.1 0, 262144, .inl f2))] H ∧ va_D (va_A [(h, .inr (6, [.ref en, .ref ca, .ref rb, .ref (E.2.2.1 (mode + 1)), .ref (E.2.2.1 (once + 1)), .int (iI (bN false))])), (rb, .inr (1, [.int (iI 262144), .ref q, .int (iI ((out.length : Nat) : Int))])), (q, .inl (E.2.1 0, cap, .inl f))] sz) [(h, .inr (6, [.ref en, .ref ca, .ref rb, .ref (E.2.2.1 (mode + 1)), .ref (E.2.2.1 (0 + 1)), .int (iI (bN true))])), (rb, .inr (1, [.int (iI 262144), .ref q2, .int (iI ((out2.length : Nat) : Int))])), (q2, .inl (E.2.1 0, 262144, .inl f2))] ∧ zbytes out2 262144 f2 ∧ zfit 262144 f2) (va_A [(h, .inr (6, [.ref en, .ref ca, .ref rb, .ref (E.2.2.1 (mode + 1)), .ref (E.2.2.1 (once + 1)), .int (iI (bN false))])), (rb, .inr (1, [.int (iI 262144), .ref q, .int (iI ((out.length : Nat) : Int))])), (q, .inl (E.2.1 0, cap, .inl f))] sz)) ((262144 - cap) / 16) (2 * (262144 - cap)) (va_A [(h, .inr (6, [.ref en, .ref ca, .ref rb, .ref (E.2.2.1 (mode + 1)), .ref (E.2.2.1 (once + 1)), .int (iI (bN false))])), (rb, .inr (1, [.int (iI 262144), .ref q, .int (iI ((out.length : Nat) : Int))])), (q, .inl (E.2.1 0, cap, .inl f))] sz) := by
  refine zMet (by decide) (Nat.le_of_ble_eq_true rfl) ?_
  intro p e s m below meth c ls S hr hlk hnm hE ⟨hsz, hP, hDo, hZb, hze, hzc, hen, hca, hrow⟩ hl
  have hx := S.1
  have hb := S.2.1
  have hE0 := hE
  have hl : lv_has ls 5 [(0, .ref h), (1, .ref r), (2, .int (iI ((k0 : Nat) : Int))), (3, .int (iI ((k0 + (sp_encs utf cs).length : Nat) : Int)))] := hl
  subst hsz
  have hD := hDo.self (sz := s.heap.size)
  generalize hAe : va_A [(h, .inr (6, [.ref en, .ref ca, .ref rb, .ref (E.2.2.1 (mode + 1)), .ref (E.2.2.1 (once + 1)), .int (iI (bN false))])), (rb, .inr (1, [.int (iI 262144), .ref q, .int (iI ((out.length : Nat) : Int))])), (q, .inl (E.2.1 0, cap, .inl f))] s.heap.size = A at hD ⊢
  have hA : ∀ q : Nat, s.heap.size ≤ q → A q := fun q h => by rw [← hAe]; exact Or.inr h
  have hA1 := zAZ hE hDo hZb hAe
  have hA0 : ∀ q, A q → zOld E q := fun q h => (hA1 q h).1
  have hAZ : ∀ q, Z q → ¬ A q := fun q z h => (hA1 q h).2 z
  have hS : va_S A s.heap s.heap [] := va_S.rf
  have hbl := (zrowZ.row hrow).len
  have hcr := sp_capok_r hc
  have hlt0 : (b.drop k0).length = (sp_encs utf cs ++ rst).length := by rw [hdr]
  rw [List.length_drop, List.length_append] at hlt0
  refine lv_iload_n hx hb d_Output_copy_0 rfl (lv_at hl 2 rfl) ?_
  refine lv_istore (lv' := [(4, .int (iI ((k0 : Nat) : Int))), (0, .ref h), (1, .ref r), (2, .int (iI ((k0 : Nat) : Int))), (3, .int (iI ((k0 + (sp_encs utf cs).length : Nat) : Int)))]) hx hb d_Output_copy_1 hl (by decide) rfl (fun ls hl => ?_)
  have hP := hP.sub (ws' := [(h, .inr (6, [.ref en, .ref ca, .ref rb, .ref (E.2.2.1 (mode + 1)), .ref (E.2.2.1 (once + 1)), .int (iI (bN false))])), (rb, .inr (1, [.int (iI 262144), .ref q, .int (iI ((out.length : Nat) : Int))])), (q, .inl (E.2.1 0, cap, .inl f))]) [0, 1, 2] rfl
  have hD := hD.sub (ws' := [(h, .inr (6, [.ref en, .ref ca, .ref rb, .ref (E.2.2.1 (mode + 1)), .ref (E.2.2.1 (once + 1)), .int (iI (bN false))])), (rb, .inr (1, [.int (iI 262144), .ref q, .int (iI ((out.length : Nat) : Int))])), (q, .inl (E.2.1 0, cap, .inl f))]) [0, 1, 2] (by decide) rfl
  refine zloop (fun (x : (List Nat) × Nat × (List Nat) × Nat × Nat × Nat × (Nat → Int32)) H locs ls cells slots => match x with | (cs1, k, out1, once1, q1, cap1, f1) => cells = (cap1 - cap) / 16 ∧ slots = 2 * (cap1 - cap) ∧ lv_has ls 5 [(4, .int (iI ((k : Nat) : Int))), (0, .ref h), (1, .ref r), (2, .int (iI ((k0 : Nat) : Int))), (3, .int (iI ((k0 + (sp_encs utf cs).length : Nat) : Int)))] ∧ va_P E.1 zcl [(h, .inr (6, [.ref en, .ref ca, .ref rb, .ref (E.2.2.1 (mode + 1)), .ref (E.2.2.1 (once1 + 1)), .int (iI (bN false))])), (rb, .inr (1, [.int (iI 262144), .ref q1, .int (iI ((out1.length : Nat) : Int))])), (q1, .inl (E.2.1 0, cap1, .inl f1))] H ∧ va_D A [(h, .inr (6, [.ref en, .ref ca, .ref rb, .ref (E.2.2.1 (mode + 1)), .ref (E.2.2.1 (once1 + 1)), .int (iI (bN false))])), (rb, .inr (1, [.int (iI 262144), .ref q1, .int (iI ((out1.length : Nat) : Int))])), (q1, .inl (E.2.1 0, cap1, .inl f1))] ∧ va_S A s.heap H locs ∧ (b.drop k = sp_encs utf cs1 ++ rst ∧ sp_oks utf cs1 ∧ k + (sp_encs utf cs1).length = k0 + (sp_encs utf cs).length ∧ sp_all utf ucp cs1 (out1, mode, once1) = none ∧ zbytes out1 cap1 f1 ∧ zfit cap1 f1 ∧ sp_capok cap1 ∧ once1 ≤ 2 ∧ cap ≤ cap1)) (fun x => match x with | (cs1, k, out1, once1, q1, cap1, f1) => cs1.length) ?_ (cs, k0, out, once, q, cap, f) ⟨by simp, by simp, hl, hP, hD, hS, ⟨hdr, hoks, rfl, hall, hB, hF, hc, honce, Nat.le_refl _⟩⟩
  clear hl hP hD hS
  rintro ⟨cs1, k, out1, once1, q1, cap1, f1⟩ H locs ls cells slots ⟨rfl, rfl, hl, hP, hD, hS, ⟨i1, i2, i3, i4, i5, i6, i7, i8, i9⟩⟩ ih
  have hE := hE0.at hS hA0
  have hcr1 := sp_capok_r i7
  have hbl := (zrowZ.row hrow).len
  have hlt1 : (b.drop k).length = (sp_encs utf cs1 ++ rst).length := by rw [i1]
  rw [List.length_drop, List.length_append] at hlt1
  refine lv_iload hx hb d_Output_copy_3 (lv_at hl 0 rfl) ?_
  refine lv_iload_n hx hb d_Output_copy_5 rfl (lv_at hl 4 rfl) ?_
  refine zi_icmp_ge hx hb d_Output_copy_6 rfl (by omega) (by omega) (fun h6 => ?_) (fun h6 => ?_)
  · have ec : cs1 = [] := sp_encs_zero (utf := utf) (by omega)
    rw [ec] at i4
    cases i4
  · obtain ⟨c, cs2, ec⟩ := sp_encs_pos (utf := utf) (cs := cs1) (by omega)
    have hokc : sp_ok utf c = true := i2 c (by rw [ec]; exact List.mem_cons_self)
    have i1c := i1
    rw [ec, sp_encs_cons, List.append_assoc] at i1c
    obtain ⟨e1, e2, e3, e4⟩ := sp_enc_at i1c hokc
    have hln1 := sp_len_le utf c
    have hkb : k < b.length := by omega
    obtain ⟨how, hhow⟩ : ∃ x, x = if once1 = 0 then mode else once1 := ⟨_, rfl⟩
    obtain ⟨t, ht⟩ : ∃ x, x = sp_case utf ucp how c := ⟨_, rfl⟩
    refine lv_aload_n hx hb d_Output_copy_9 rfl (lv_at hl 1 rfl) ?_
    refine zgf S hE (ci := 6) rfl i_Output (hP 0 _ rfl) 5 (by decide) zw_159 rfl d_Output_copy_10 ?_
    refine zb_ifne hx hb d_Output_copy_13 rfl (fun h => absurd h (by decide)) (fun _ => ?_)
    refine lv_aload_n hx hb d_Output_copy_16 rfl (lv_at hl 1 rfl) ?_
    refine lv_aload_n hx hb d_Output_copy_17 rfl (lv_at hl 1 rfl) ?_
    refine zgf S hE (ci := 6) rfl i_Output (hP 0 _ rfl) 0 (by decide) zw_154 rfl d_Output_copy_18 ?_
    refine lv_aload_n hx hb d_Output_copy_21 rfl (lv_at hl 2 rfl) ?_
    refine lv_iload hx hb d_Output_copy_22 (lv_at hl 0 rfl) ?_
    refine zcR (va_runV (As := [.ref r, .int (iI ((k : Nat) : Int))]) (rest := [.ref h]) S (c_Encoding_characterAt l E en r utf b k hkb (by omega)) ⟨zcwB (n := 2) S zw_445 zw_7 zw_667 (by decide +kernel) rfl rfl ⟨Nat.le_of_ble_eq_true rfl, Nat.le_of_ble_eq_true rfl⟩, S.2.2.2.2 _ zw_443, S.2.2.2.2 _ zw_444⟩ (zPreV hE (zfz hS hen (hAZ _ hze)) rfl ⟨(zfz hS hen (hAZ _ hze)), (zrowZ.row (zrowZ.fz hrow hS hAZ))⟩) rfl rfl hl.1 rfl (lv_room (Nat.le_of_ble_eq_true rfl)) d_Output_copy_24 ⟨by (try dsimp only); omega, by (try dsimp only); omega⟩) ?_
    rw [e2]
    by_cases hfit : out1.length + sp_len utf t ≤ 262144
    · skip
      have h1 := sp_one_some (ucp := ucp) hhow ht hfit
      have hroom : max cap1 (sp_up (out1 ++ sp_enc utf t).length) ≤ 262144 := (sp_capok_r (sp_capok_max i7 (sp_up_ok _))).2.1
      have hPc := hP.sub (ws' := [(h, .inr (6, [.ref en, .ref ca, .ref rb, .ref (E.2.2.1 (mode + 1)), .ref (E.2.2.1 (once1 + 1)), .int (iI (bN false))])), (rb, .inr (1, [.int (iI 262144), .ref q1, .int (iI ((out1.length : Nat) : Int))])), (q1, .inl (E.2.1 0, cap1, .inl f1))]) [0, 1, 2] rfl
      have hDc := hD.sub (ws' := [(h, .inr (6, [.ref en, .ref ca, .ref rb, .ref (E.2.2.1 (mode + 1)), .ref (E.2.2.1 (once1 + 1)), .int (iI (bN false))])), (rb, .inr (1, [.int (iI 262144), .ref q1, .int (iI ((out1.length : Nat) : Int))])), (q1, .inl (E.2.1 0, cap1, .inl f1))]) [0, 1, 2] (by decide) rfl
      have hFc := va_free (wc := [(h, .inr (6, [.ref en, .ref ca, .ref rb, .ref (E.2.2.1 (mode + 1)), .ref (E.2.2.1 (once1 + 1)), .int (iI (bN false))])), (rb, .inr (1, [.int (iI 262144), .ref q1, .int (iI ((out1.length : Nat) : Int))])), (q1, .inl (E.2.1 0, cap1, .inl f1))]) hD hS hA [0, 1, 2] rfl
      refine zcW (va_runV (As := [.int (iI ((c : Nat) : Int))]) (rest := []) S (c_Output_put l E H.size Z h rb q1 en ca cap1 mode once1 c how t utf ucp f1 out1 i5 i6 i7 hmode i8 hokc hhow ht hfit) ⟨zcwB (n := 1) S zw_671 zw_8 zw_668 (by decide +kernel) rfl rfl ⟨Nat.le_of_ble_eq_true rfl, Nat.le_of_ble_eq_true rfl⟩, S.2.2.2.2 _ zw_669, S.2.2.2.2 _ zw_670⟩ (zPreV hE (hP 0 _ rfl) rfl ⟨rfl, hPc, hDc.weaken (fun _ _ _ h => ⟨hA0 _ h, fun z => hAZ _ z h⟩), (fun q z => Nat.lt_of_lt_of_le (hZb q z) hS.1), hze, hzc, (zfz hS hen (hAZ _ hze)), (zfz hS hca (hAZ _ hzc))⟩) rfl rfl hl.1 rfl (lv_room (Nat.le_of_ble_eq_true rfl)) d_Output_copy_27 ⟨by (try dsimp only); omega, by (try dsimp only); omega⟩) hS (fun q _ h => hFc q h) hFc (fun v H locs hq hz1 hk1 hS => ?_)
      obtain ⟨rfl, q2, f2, hP1, hD1, hB2, hF2⟩ := hq
      obtain ⟨hP, hD⟩ := va_join (wr := []) (w1 := [(h, .inr (6, [.ref en, .ref ca, .ref rb, .ref (E.2.2.1 (mode + 1)), .ref (E.2.2.1 (0 + 1)), .int (iI (bN false))])), (rb, .inr (1, [.int (iI 262144), .ref q2, .int (iI (((out1 ++ sp_enc utf t).length : Nat) : Int))])), (q2, .inl (E.2.1 0, max cap1 (sp_up (out1 ++ sp_enc utf t).length), .inl f2))]) hP hD [0, 1, 2] [] rfl rfl (by decide) (by decide) hk1 hFc hP1 hD1
      have hP : va_P E.1 zcl [(h, .inr (6, [.ref en, .ref ca, .ref rb, .ref (E.2.2.1 (mode + 1)), .ref (E.2.2.1 (0 + 1)), .int (iI (bN false))])), (rb, .inr (1, [.int (iI 262144), .ref q2, .int (iI (((out1 ++ sp_enc utf t).length : Nat) : Int))])), (q2, .inl (E.2.1 0, max cap1 (sp_up (out1 ++ sp_enc utf t).length), .inl f2))] H := hP
      have hD : va_D A [(h, .inr (6, [.ref en, .ref ca, .ref rb, .ref (E.2.2.1 (mode + 1)), .ref (E.2.2.1 (0 + 1)), .int (iI (bN false))])), (rb, .inr (1, [.int (iI 262144), .ref q2, .int (iI (((out1 ++ sp_enc utf t).length : Nat) : Int))])), (q2, .inl (E.2.1 0, max cap1 (sp_up (out1 ++ sp_enc utf t).length), .inl f2))] := hD
      have hE := hE0.at hS hA0
      have hcm : cap1 ≤ max cap1 (sp_up (out1 ++ sp_enc utf t).length) := Nat.le_max_left _ _
      refine lv_iload hx hb d_Output_copy_30 (lv_at hl 0 rfl) ?_
      refine zi_iconst hx hb d_Output_copy_32 ?_
      refine lv_aload_n hx hb d_Output_copy_33 rfl (lv_at hl 1 rfl) ?_
      refine zgf S hE (ci := 6) rfl i_Output (hP 0 _ rfl) 0 (by decide) zw_154 rfl d_Output_copy_34 ?_
      refine lv_aload_n hx hb d_Output_copy_37 rfl (lv_at hl 2 rfl) ?_
      refine lv_iload hx hb d_Output_copy_38 (lv_at hl 0 rfl) ?_
      refine zcR (va_runV (As := [.int (iI ((k : Nat) : Int))]) (rest := [.ref en, .int (iI 1), .int (iI ((k : Nat) : Int))]) S (c_Row_at l E r b ((k : Nat) : Int) (by omega)) ⟨zcwB (n := 1) S zw_437 zw_2 zw_685 (by decide +kernel) rfl rfl ⟨Nat.le_of_ble_eq_true rfl, Nat.le_of_ble_eq_true rfl⟩, S.2.2.2.2 _ zw_435, S.2.2.2.2 _ zw_436⟩ (zPreVrow hE (zrowZ.row (zrowZ.fz hrow hS hAZ)) (zrowZ.row (zrowZ.fz hrow hS hAZ))) rfl rfl hl.1 rfl (lv_room (Nat.le_of_ble_eq_true rfl)) d_Output_copy_40 ⟨by (try dsimp only); omega, by (try dsimp only); omega⟩) ?_
      rw [sp_at_in (n := k) (by omega) (by omega)]
      have hb40 := sp_b_lt (zrow.lt (zrowZ.row (zrowZ.fz hrow hS hAZ))) (k)
      have hbk := sp_b_lt (zrow.lt (zrowZ.row hrow)) k
      refine zcR (va_runV (As := [.int (iI ((sp_b b k : Nat) : Int))]) (rest := [.int (iI 1), .int (iI ((k : Nat) : Int))]) S (c_Encoding_lengthBehind l E en utf (sp_b b k) hbk) ⟨zcwB (n := 1) S zw_441 zw_7 zw_686 (by decide +kernel) rfl rfl ⟨Nat.le_of_ble_eq_true rfl, Nat.le_of_ble_eq_true rfl⟩, S.2.2.2.2 _ zw_439, S.2.2.2.2 _ zw_440⟩ (zPreV hE (zfz hS hen (hAZ _ hze)) rfl (zfz hS hen (hAZ _ hze))) rfl rfl hl.1 rfl (lv_room (Nat.le_of_ble_eq_true rfl)) d_Output_copy_43 ⟨by (try dsimp only); omega, by (try dsimp only); omega⟩) ?_
      rw [e1]
      refine zcR (va_runS (As := [.int (iI 1), .int (iI ((sp_len utf c : Nat) : Int))]) (rest := [.int (iI ((k : Nat) : Int))]) S (c_Math_max l E 1 ((sp_len utf c : Nat) : Int) (by omega) (by omega)) ⟨zcwB (n := 2) S zw_461 zw_23 zw_687 (by decide +kernel) rfl rfl ⟨Nat.le_of_ble_eq_true rfl, Nat.le_of_ble_eq_true rfl⟩, S.2.2.2.2 _ zw_460⟩ (zPreS hE trivial) rfl rfl hl.1 rfl (lv_room (Nat.le_of_ble_eq_true rfl)) d_Output_copy_46 ⟨by (try dsimp only); omega, by (try dsimp only); omega⟩) ?_
      rw [show max (1 : Int) ((sp_len utf c : Nat) : Int) = ((sp_len utf c : Nat) : Int) by omega]
      refine zi_iadd hx hb d_Output_copy_49 ?_
      rw [show ((k : Nat) : Int) + ((sp_len utf c : Nat) : Int) = ((k + sp_len utf c : Nat) : Int) by omega]
      refine lv_istore (lv' := [(4, .int (iI ((k + sp_len utf c : Nat) : Int))), (0, .ref h), (1, .ref r), (2, .int (iI ((k0 : Nat) : Int))), (3, .int (iI ((k0 + (sp_encs utf cs).length : Nat) : Int)))]) hx hb d_Output_copy_50 hl (by decide) rfl (fun ls hl => ?_)
      refine lv_goto hx hb d_Output_copy_52 rfl ?_
      refine W.widen (k := (max cap1 (sp_up (out1 ++ sp_enc utf t).length) - cap) / 16) (n := 2 * (max cap1 (sp_up (out1 ++ sp_enc utf t).length) - cap)) (by (try dsimp only); omega) (by (try dsimp only); omega) ?_
      exact ih (cs2, k + sp_len utf c, out1 ++ sp_enc utf t, 0, q2, max cap1 (sp_up (out1 ++ sp_enc utf t).length), f2) H locs ls _ _ (by dsimp only; rw [ec]; simp) ⟨rfl, rfl, lv_sub hl [0, 1, 2, 3, 4] rfl, hP.sub (ws' := [(h, .inr (6, [.ref en, .ref ca, .ref rb, .ref (E.2.2.1 (mode + 1)), .ref (E.2.2.1 (0 + 1)), .int (iI (bN false))])), (rb, .inr (1, [.int (iI 262144), .ref q2, .int (iI (((out1 ++ sp_enc utf t).length : Nat) : Int))])), (q2, .inl (E.2.1 0, max cap1 (sp_up (out1 ++ sp_enc utf t).length), .inl f2))]) [0, 1, 2] rfl, hD.sub (ws' := [(h, .inr (6, [.ref en, .ref ca, .ref rb, .ref (E.2.2.1 (mode + 1)), .ref (E.2.2.1 (0 + 1)), .int (iI (bN false))])), (rb, .inr (1, [.int (iI 262144), .ref q2, .int (iI (((out1 ++ sp_enc utf t).length : Nat) : Int))])), (q2, .inl (E.2.1 0, max cap1 (sp_up (out1 ++ sp_enc utf t).length), .inl f2))]) [0, 1, 2] (by decide) rfl, hS, ⟨e4, fun x hx => i2 x (by rw [ec]; exact List.mem_cons_of_mem _ hx), by rw [ec, sp_encs_cons, List.length_append, sp_enc_len] at i3; omega, by rw [← i4, ec, sp_all_cons h1], hB2, hF2, sp_capok_max i7 (sp_up_ok _), by omega, by omega⟩⟩
    · skip
      have hPc := hP.sub (ws' := [(h, .inr (6, [.ref en, .ref ca, .ref rb, .ref (E.2.2.1 (mode + 1)), .ref (E.2.2.1 (once1 + 1)), .int (iI (bN false))])), (rb, .inr (1, [.int (iI 262144), .ref q1, .int (iI ((out1.length : Nat) : Int))])), (q1, .inl (E.2.1 0, cap1, .inl f1))]) [0, 1, 2] rfl
      have hDc := hD.sub (ws' := [(h, .inr (6, [.ref en, .ref ca, .ref rb, .ref (E.2.2.1 (mode + 1)), .ref (E.2.2.1 (once1 + 1)), .int (iI (bN false))])), (rb, .inr (1, [.int (iI 262144), .ref q1, .int (iI ((out1.length : Nat) : Int))])), (q1, .inl (E.2.1 0, cap1, .inl f1))]) [0, 1, 2] (by decide) rfl
      have hFc := va_free (wc := [(h, .inr (6, [.ref en, .ref ca, .ref rb, .ref (E.2.2.1 (mode + 1)), .ref (E.2.2.1 (once1 + 1)), .int (iI (bN false))])), (rb, .inr (1, [.int (iI 262144), .ref q1, .int (iI ((out1.length : Nat) : Int))])), (q1, .inl (E.2.1 0, cap1, .inl f1))]) hD hS hA [0, 1, 2] rfl
      refine zcW (va_runV (As := [.int (iI ((c : Nat) : Int))]) (rest := []) S (c_Output_put_full l E H.size Z h rb q1 en ca cap1 mode once1 c how t utf ucp f1 out1 i5 i6 i7 hmode i8 hokc hhow ht hfit) ⟨zcwB (n := 1) S zw_671 zw_8 zw_668 (by decide +kernel) rfl rfl ⟨Nat.le_of_ble_eq_true rfl, Nat.le_of_ble_eq_true rfl⟩, S.2.2.2.2 _ zw_669, S.2.2.2.2 _ zw_670⟩ (zPreV hE (hP 0 _ rfl) rfl ⟨rfl, hPc, hDc.weaken (fun _ _ _ h => ⟨hA0 _ h, fun z => hAZ _ z h⟩), (fun q z => Nat.lt_of_lt_of_le (hZb q z) hS.1), hze, hzc, (zfz hS hen (hAZ _ hze)), (zfz hS hca (hAZ _ hzc))⟩) rfl rfl hl.1 rfl (lv_room (Nat.le_of_ble_eq_true rfl)) d_Output_copy_27 ⟨by (try dsimp only); omega, by (try dsimp only); omega⟩) hS (fun q _ h => hFc q h) hFc (fun v H locs hq hz1 hk1 hS => ?_)
      obtain ⟨rfl, hP1, hD1⟩ := hq
      obtain ⟨hP, hD⟩ := va_join (wr := []) (w1 := [(h, .inr (6, [.ref en, .ref ca, .ref rb, .ref (E.2.2.1 (mode + 1)), .ref (E.2.2.1 (0 + 1)), .int (iI (bN true))])), (rb, .inr (1, [.int (iI 262144), .ref q1, .int (iI ((out1.length : Nat) : Int))])), (q1, .inl (E.2.1 0, cap1, .inl f1))]) hP hD [0, 1, 2] [] rfl rfl (by decide) (by decide) hk1 hFc hP1 hD1
      have hP : va_P E.1 zcl [(h, .inr (6, [.ref en, .ref ca, .ref rb, .ref (E.2.2.1 (mode + 1)), .ref (E.2.2.1 (0 + 1)), .int (iI (bN true))])), (rb, .inr (1, [.int (iI 262144), .ref q1, .int (iI ((out1.length : Nat) : Int))])), (q1, .inl (E.2.1 0, cap1, .inl f1))] H := hP
      have hD : va_D A [(h, .inr (6, [.ref en, .ref ca, .ref rb, .ref (E.2.2.1 (mode + 1)), .ref (E.2.2.1 (0 + 1)), .int (iI (bN true))])), (rb, .inr (1, [.int (iI 262144), .ref q1, .int (iI ((out1.length : Nat) : Int))])), (q1, .inl (E.2.1 0, cap1, .inl f1))] := hD
      have hE := hE0.at hS hA0
      have hltt := sp_case_lt (ucp := ucp) (how := how) hokc
      have hlnt := sp_len_le utf t
      have hcap : cap1 = 262144 := by have := i5.1; unfold sp_capok at i7; omega
      subst hcap
      refine lv_iload hx hb d_Output_copy_30 (lv_at hl 0 rfl) ?_
      refine zi_iconst hx hb d_Output_copy_32 ?_
      refine lv_aload_n hx hb d_Output_copy_33 rfl (lv_at hl 1 rfl) ?_
      refine zgf S hE (ci := 6) rfl i_Output (hP 0 _ rfl) 0 (by decide) zw_154 rfl d_Output_copy_34 ?_
      refine lv_aload_n hx hb d_Output_copy_37 rfl (lv_at hl 2 rfl) ?_
      refine lv_iload hx hb d_Output_copy_38 (lv_at hl 0 rfl) ?_
      refine zcR (va_runV (As := [.int (iI ((k : Nat) : Int))]) (rest := [.ref en, .int (iI 1), .int (iI ((k : Nat) : Int))]) S (c_Row_at l E r b ((k : Nat) : Int) (by omega)) ⟨zcwB (n := 1) S zw_437 zw_2 zw_685 (by decide +kernel) rfl rfl ⟨Nat.le_of_ble_eq_true rfl, Nat.le_of_ble_eq_true rfl⟩, S.2.2.2.2 _ zw_435, S.2.2.2.2 _ zw_436⟩ (zPreVrow hE (zrowZ.row (zrowZ.fz hrow hS hAZ)) (zrowZ.row (zrowZ.fz hrow hS hAZ))) rfl rfl hl.1 rfl (lv_room (Nat.le_of_ble_eq_true rfl)) d_Output_copy_40 ⟨by (try dsimp only); omega, by (try dsimp only); omega⟩) ?_
      rw [sp_at_in (n := k) (by omega) (by omega)]
      have hb40 := sp_b_lt (zrow.lt (zrowZ.row (zrowZ.fz hrow hS hAZ))) (k)
      have hbk := sp_b_lt (zrow.lt (zrowZ.row hrow)) k
      refine zcR (va_runV (As := [.int (iI ((sp_b b k : Nat) : Int))]) (rest := [.int (iI 1), .int (iI ((k : Nat) : Int))]) S (c_Encoding_lengthBehind l E en utf (sp_b b k) hbk) ⟨zcwB (n := 1) S zw_441 zw_7 zw_686 (by decide +kernel) rfl rfl ⟨Nat.le_of_ble_eq_true rfl, Nat.le_of_ble_eq_true rfl⟩, S.2.2.2.2 _ zw_439, S.2.2.2.2 _ zw_440⟩ (zPreV hE (zfz hS hen (hAZ _ hze)) rfl (zfz hS hen (hAZ _ hze))) rfl rfl hl.1 rfl (lv_room (Nat.le_of_ble_eq_true rfl)) d_Output_copy_43 ⟨by (try dsimp only); omega, by (try dsimp only); omega⟩) ?_
      rw [e1]
      refine zcR (va_runS (As := [.int (iI 1), .int (iI ((sp_len utf c : Nat) : Int))]) (rest := [.int (iI ((k : Nat) : Int))]) S (c_Math_max l E 1 ((sp_len utf c : Nat) : Int) (by omega) (by omega)) ⟨zcwB (n := 2) S zw_461 zw_23 zw_687 (by decide +kernel) rfl rfl ⟨Nat.le_of_ble_eq_true rfl, Nat.le_of_ble_eq_true rfl⟩, S.2.2.2.2 _ zw_460⟩ (zPreS hE trivial) rfl rfl hl.1 rfl (lv_room (Nat.le_of_ble_eq_true rfl)) d_Output_copy_46 ⟨by (try dsimp only); omega, by (try dsimp only); omega⟩) ?_
      rw [show max (1 : Int) ((sp_len utf c : Nat) : Int) = ((sp_len utf c : Nat) : Int) by omega]
      refine zi_iadd hx hb d_Output_copy_49 ?_
      rw [show ((k : Nat) : Int) + ((sp_len utf c : Nat) : Int) = ((k + sp_len utf c : Nat) : Int) by omega]
      refine lv_istore (lv' := [(4, .int (iI ((k + sp_len utf c : Nat) : Int))), (0, .ref h), (1, .ref r), (2, .int (iI ((k0 : Nat) : Int))), (3, .int (iI ((k0 + (sp_encs utf cs).length : Nat) : Int)))]) hx hb d_Output_copy_50 hl (by decide) rfl (fun ls hl => ?_)
      refine lv_goto hx hb d_Output_copy_52 rfl ?_
      refine lv_iload hx hb d_Output_copy_3 (lv_at hl 0 rfl) ?_
      refine lv_iload_n hx hb d_Output_copy_5 rfl (lv_at hl 4 rfl) ?_
      refine zi_icmp_ge hx hb d_Output_copy_6 rfl (by omega) (by omega) (fun h6 => ?_) (fun h6 => ?_)
      · exact zwv S hr hlk hS (⟨rfl, q1, f1, out1, hP.sub (ws' := [(h, .inr (6, [.ref en, .ref ca, .ref rb, .ref (E.2.2.1 (mode + 1)), .ref (E.2.2.1 (0 + 1)), .int (iI (bN true))])), (rb, .inr (1, [.int (iI 262144), .ref q1, .int (iI ((out1.length : Nat) : Int))])), (q1, .inl (E.2.1 0, 262144, .inl f1))]) [0, 1, 2] rfl, hD.sub (ws' := [(h, .inr (6, [.ref en, .ref ca, .ref rb, .ref (E.2.2.1 (mode + 1)), .ref (E.2.2.1 (0 + 1)), .int (iI (bN true))])), (rb, .inr (1, [.int (iI 262144), .ref q1, .int (iI ((out1.length : Nat) : Int))])), (q1, .inl (E.2.1 0, 262144, .inl f1))]) [0, 1, 2] (by decide) rfl, i5, i6⟩) (by (try dsimp only); omega) (by (try dsimp only); omega) d_Output_copy_55
      · refine lv_aload_n hx hb d_Output_copy_9 rfl (lv_at hl 1 rfl) ?_
        refine zgf S hE (ci := 6) rfl i_Output (hP 0 _ rfl) 5 (by decide) zw_159 rfl d_Output_copy_10 ?_
        refine zb_ifne hx hb d_Output_copy_13 rfl (fun _ => ?_) (fun h => absurd h (by decide))
        exact zwv S hr hlk hS (⟨rfl, q1, f1, out1, hP.sub (ws' := [(h, .inr (6, [.ref en, .ref ca, .ref rb, .ref (E.2.2.1 (mode + 1)), .ref (E.2.2.1 (0 + 1)), .int (iI (bN true))])), (rb, .inr (1, [.int (iI 262144), .ref q1, .int (iI ((out1.length : Nat) : Int))])), (q1, .inl (E.2.1 0, 262144, .inl f1))]) [0, 1, 2] rfl, hD.sub (ws' := [(h, .inr (6, [.ref en, .ref ca, .ref rb, .ref (E.2.2.1 (mode + 1)), .ref (E.2.2.1 (0 + 1)), .int (iI (bN true))])), (rb, .inr (1, [.int (iI 262144), .ref q1, .int (iI ((out1.length : Nat) : Int))])), (q1, .inl (E.2.1 0, 262144, .inl f1))]) [0, 1, 2] (by decide) rfl, i5, i6⟩) (by (try dsimp only); omega) (by (try dsimp only); omega) d_Output_copy_55
end
